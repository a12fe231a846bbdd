section
-- ===== PART A: goes FIRST, ahead of the names: the tables' words, and 'selects' of the private methods out of them =====
/-- a private method of a class that the tables say can be made, by its rows of tables_1 -/
def lw_okq (q : MethodName × Nat) : Prop := (q.1.cls ≠ "java/lang/invoke/MethodHandle" ∧ q.1.cls ≠ "java/lang/invoke/VarHandle") ∧ Cond.instantiable q.1.cls q.2 ∈ tables_1 ∧ Cond.privateMethod q.1 ∈ tables_1 ∧ Cond.instanceMethod q.1 ∈ tables_1
theorem lw_p0 : lw_okq (⟨"WaitedCommits", "isError", "(I)Z"⟩, 9) := ⟨⟨by decide +kernel, by decide +kernel⟩, List.mem_of_getElem? (i := 9) (by decide +kernel), List.mem_of_getElem? (i := 187) (by decide +kernel), List.mem_of_getElem? (i := 188) (by decide +kernel)⟩
theorem lw_p1 : lw_okq (⟨"WaitedCommits$Transaction", "leastParticipant", "()I"⟩, 10) := ⟨⟨by decide +kernel, by decide +kernel⟩, List.mem_of_getElem? (i := 75) (by decide +kernel), List.mem_of_getElem? (i := 209) (by decide +kernel), List.mem_of_getElem? (i := 210) (by decide +kernel)⟩
theorem lw_p2 : lw_okq (⟨"WaitedCommits$Transaction", "holdsAt", "(I)Z"⟩, 10) := ⟨⟨by decide +kernel, by decide +kernel⟩, List.mem_of_getElem? (i := 75) (by decide +kernel), List.mem_of_getElem? (i := 213) (by decide +kernel), List.mem_of_getElem? (i := 214) (by decide +kernel)⟩
theorem lw_p3 : lw_okq (⟨"WaitedCommits", "isActive", "(I)Z"⟩, 9) := ⟨⟨by decide +kernel, by decide +kernel⟩, List.mem_of_getElem? (i := 9) (by decide +kernel), List.mem_of_getElem? (i := 221) (by decide +kernel), List.mem_of_getElem? (i := 222) (by decide +kernel)⟩
theorem lw_p4 : lw_okq (⟨"WaitedCommits", "lock", "(LWaitedCommits$Transaction;II)Z"⟩, 9) := ⟨⟨by decide +kernel, by decide +kernel⟩, List.mem_of_getElem? (i := 9) (by decide +kernel), List.mem_of_getElem? (i := 228) (by decide +kernel), List.mem_of_getElem? (i := 229) (by decide +kernel)⟩
theorem lw_p5 : lw_okq (⟨"WaitedCommits$Transaction", "giveUp", "()V"⟩, 10) := ⟨⟨by decide +kernel, by decide +kernel⟩, List.mem_of_getElem? (i := 75) (by decide +kernel), List.mem_of_getElem? (i := 241) (by decide +kernel), List.mem_of_getElem? (i := 242) (by decide +kernel)⟩
theorem lw_p6 : lw_okq (⟨"WaitedCommits$Transaction", "unlockAt", "(I)V"⟩, 10) := ⟨⟨by decide +kernel, by decide +kernel⟩, List.mem_of_getElem? (i := 75) (by decide +kernel), List.mem_of_getElem? (i := 245) (by decide +kernel), List.mem_of_getElem? (i := 246) (by decide +kernel)⟩
theorem lw_p7 : lw_okq (⟨"WaitedCommits", "prepare", "(I)V"⟩, 9) := ⟨⟨by decide +kernel, by decide +kernel⟩, List.mem_of_getElem? (i := 9) (by decide +kernel), List.mem_of_getElem? (i := 258) (by decide +kernel), List.mem_of_getElem? (i := 259) (by decide +kernel)⟩
theorem lw_p8 : lw_okq (⟨"WaitedCommits", "latest", "(I)I"⟩, 9) := ⟨⟨by decide +kernel, by decide +kernel⟩, List.mem_of_getElem? (i := 9) (by decide +kernel), List.mem_of_getElem? (i := 262) (by decide +kernel), List.mem_of_getElem? (i := 263) (by decide +kernel)⟩
theorem lw_p9 : lw_okq (⟨"WaitedCommits", "sendToOthers", "(II)I"⟩, 9) := ⟨⟨by decide +kernel, by decide +kernel⟩, List.mem_of_getElem? (i := 9) (by decide +kernel), List.mem_of_getElem? (i := 266) (by decide +kernel), List.mem_of_getElem? (i := 267) (by decide +kernel)⟩
theorem lw_p10 : lw_okq (⟨"WaitedCommits", "send", "(III)V"⟩, 9) := ⟨⟨by decide +kernel, by decide +kernel⟩, List.mem_of_getElem? (i := 9) (by decide +kernel), List.mem_of_getElem? (i := 271) (by decide +kernel), List.mem_of_getElem? (i := 272) (by decide +kernel)⟩
theorem lw_p11 : lw_okq (⟨"WaitedCommits", "chooseStamp", "(LWaitedCommits$Transaction;)V"⟩, 9) := ⟨⟨by decide +kernel, by decide +kernel⟩, List.mem_of_getElem? (i := 9) (by decide +kernel), List.mem_of_getElem? (i := 275) (by decide +kernel), List.mem_of_getElem? (i := 276) (by decide +kernel)⟩
theorem lw_p12 : lw_okq (⟨"WaitedCommits$Transaction", "greatestMark", "()I"⟩, 10) := ⟨⟨by decide +kernel, by decide +kernel⟩, List.mem_of_getElem? (i := 75) (by decide +kernel), List.mem_of_getElem? (i := 279) (by decide +kernel), List.mem_of_getElem? (i := 280) (by decide +kernel)⟩
theorem lw_p13 : lw_okq (⟨"WaitedCommits", "greatestReadyTime", "(I)I"⟩, 9) := ⟨⟨by decide +kernel, by decide +kernel⟩, List.mem_of_getElem? (i := 9) (by decide +kernel), List.mem_of_getElem? (i := 292) (by decide +kernel), List.mem_of_getElem? (i := 293) (by decide +kernel)⟩
theorem lw_p14 : lw_okq (⟨"WaitedCommits", "leastMark", "(I)I"⟩, 9) := ⟨⟨by decide +kernel, by decide +kernel⟩, List.mem_of_getElem? (i := 9) (by decide +kernel), List.mem_of_getElem? (i := 296) (by decide +kernel), List.mem_of_getElem? (i := 297) (by decide +kernel)⟩
theorem lw_p15 : lw_okq (⟨"WaitedCommits$Site", "raiseBound", "(I)V"⟩, 5) := ⟨⟨by decide +kernel, by decide +kernel⟩, List.mem_of_getElem? (i := 30) (by decide +kernel), List.mem_of_getElem? (i := 301) (by decide +kernel), List.mem_of_getElem? (i := 302) (by decide +kernel)⟩
def lw_privs_1 : List (MethodName × Nat) := [(⟨"WaitedCommits", "isError", "(I)Z"⟩, 9), (⟨"WaitedCommits$Transaction", "leastParticipant", "()I"⟩, 10), (⟨"WaitedCommits$Transaction", "holdsAt", "(I)Z"⟩, 10), (⟨"WaitedCommits", "isActive", "(I)Z"⟩, 9), (⟨"WaitedCommits", "lock", "(LWaitedCommits$Transaction;II)Z"⟩, 9), (⟨"WaitedCommits$Transaction", "giveUp", "()V"⟩, 10), (⟨"WaitedCommits$Transaction", "unlockAt", "(I)V"⟩, 10), (⟨"WaitedCommits", "prepare", "(I)V"⟩, 9), (⟨"WaitedCommits", "latest", "(I)I"⟩, 9), (⟨"WaitedCommits", "sendToOthers", "(II)I"⟩, 9), (⟨"WaitedCommits", "send", "(III)V"⟩, 9), (⟨"WaitedCommits", "chooseStamp", "(LWaitedCommits$Transaction;)V"⟩, 9), (⟨"WaitedCommits$Transaction", "greatestMark", "()I"⟩, 10), (⟨"WaitedCommits", "greatestReadyTime", "(I)I"⟩, 9), (⟨"WaitedCommits", "leastMark", "(I)I"⟩, 9), (⟨"WaitedCommits$Site", "raiseBound", "(I)V"⟩, 5)]
theorem lw_r1 : ∀ q ∈ lw_privs_1, lw_okq q := List.forall_mem_cons.mpr ⟨lw_p0, List.forall_mem_cons.mpr ⟨lw_p1, List.forall_mem_cons.mpr ⟨lw_p2, List.forall_mem_cons.mpr ⟨lw_p3, List.forall_mem_cons.mpr ⟨lw_p4, List.forall_mem_cons.mpr ⟨lw_p5, List.forall_mem_cons.mpr ⟨lw_p6, List.forall_mem_cons.mpr ⟨lw_p7, List.forall_mem_cons.mpr ⟨lw_p8, List.forall_mem_cons.mpr ⟨lw_p9, List.forall_mem_cons.mpr ⟨lw_p10, List.forall_mem_cons.mpr ⟨lw_p11, List.forall_mem_cons.mpr ⟨lw_p12, List.forall_mem_cons.mpr ⟨lw_p13, List.forall_mem_cons.mpr ⟨lw_p14, List.forall_mem_cons.mpr ⟨lw_p15, fun _ h => absurd h List.not_mem_nil⟩⟩⟩⟩⟩⟩⟩⟩⟩⟩⟩⟩⟩⟩⟩⟩
theorem lw_p16 : lw_okq (⟨"WaitedCommits$Key", "valueAt", "(I)J"⟩, 3) := ⟨⟨by decide +kernel, by decide +kernel⟩, List.mem_of_getElem? (i := 56) (by decide +kernel), List.mem_of_getElem? (i := 306) (by decide +kernel), List.mem_of_getElem? (i := 307) (by decide +kernel)⟩
theorem lw_p17 : lw_okq (⟨"WaitedCommits", "deliverMessages", "()V"⟩, 9) := ⟨⟨by decide +kernel, by decide +kernel⟩, List.mem_of_getElem? (i := 9) (by decide +kernel), List.mem_of_getElem? (i := 315) (by decide +kernel), List.mem_of_getElem? (i := 316) (by decide +kernel)⟩
theorem lw_p18 : lw_okq (⟨"WaitedCommits", "firstDue", "()LWaitedCommits$Message;"⟩, 9) := ⟨⟨by decide +kernel, by decide +kernel⟩, List.mem_of_getElem? (i := 9) (by decide +kernel), List.mem_of_getElem? (i := 319) (by decide +kernel), List.mem_of_getElem? (i := 320) (by decide +kernel)⟩
theorem lw_p19 : lw_okq (⟨"WaitedCommits", "isDue", "(LWaitedCommits$Message;)Z"⟩, 9) := ⟨⟨by decide +kernel, by decide +kernel⟩, List.mem_of_getElem? (i := 9) (by decide +kernel), List.mem_of_getElem? (i := 323) (by decide +kernel), List.mem_of_getElem? (i := 324) (by decide +kernel)⟩
theorem lw_p20 : lw_okq (⟨"WaitedCommits$Message", "comesBefore", "(LWaitedCommits$Message;)Z"⟩, 6) := ⟨⟨by decide +kernel, by decide +kernel⟩, List.mem_of_getElem? (i := 121) (by decide +kernel), List.mem_of_getElem? (i := 327) (by decide +kernel), List.mem_of_getElem? (i := 328) (by decide +kernel)⟩
theorem lw_p21 : lw_okq (⟨"WaitedCommits", "dealWith", "(LWaitedCommits$Message;)V"⟩, 9) := ⟨⟨by decide +kernel, by decide +kernel⟩, List.mem_of_getElem? (i := 9) (by decide +kernel), List.mem_of_getElem? (i := 331) (by decide +kernel), List.mem_of_getElem? (i := 332) (by decide +kernel)⟩
theorem lw_p22 : lw_okq (⟨"WaitedCommits", "takePrepare", "(II)V"⟩, 9) := ⟨⟨by decide +kernel, by decide +kernel⟩, List.mem_of_getElem? (i := 9) (by decide +kernel), List.mem_of_getElem? (i := 335) (by decide +kernel), List.mem_of_getElem? (i := 336) (by decide +kernel)⟩
theorem lw_p23 : lw_okq (⟨"WaitedCommits", "takePrepared", "(LWaitedCommits$Transaction;)V"⟩, 9) := ⟨⟨by decide +kernel, by decide +kernel⟩, List.mem_of_getElem? (i := 9) (by decide +kernel), List.mem_of_getElem? (i := 339) (by decide +kernel), List.mem_of_getElem? (i := 340) (by decide +kernel)⟩
theorem lw_p24 : lw_okq (⟨"WaitedCommits", "finishAt", "(LWaitedCommits$Transaction;I)V"⟩, 9) := ⟨⟨by decide +kernel, by decide +kernel⟩, List.mem_of_getElem? (i := 9) (by decide +kernel), List.mem_of_getElem? (i := 343) (by decide +kernel), List.mem_of_getElem? (i := 344) (by decide +kernel)⟩
theorem lw_p25 : lw_okq (⟨"WaitedCommits$Key", "add", "(II)V"⟩, 3) := ⟨⟨by decide +kernel, by decide +kernel⟩, List.mem_of_getElem? (i := 56) (by decide +kernel), List.mem_of_getElem? (i := 347) (by decide +kernel), List.mem_of_getElem? (i := 348) (by decide +kernel)⟩
theorem lw_p26 : lw_okq (⟨"WaitedCommits", "endWaiting", "()I"⟩, 9) := ⟨⟨by decide +kernel, by decide +kernel⟩, List.mem_of_getElem? (i := 9) (by decide +kernel), List.mem_of_getElem? (i := 353) (by decide +kernel), List.mem_of_getElem? (i := 354) (by decide +kernel)⟩
theorem lw_p27 : lw_okq (⟨"WaitedCommits", "mayEnd", "(LWaitedCommits$Transaction;)Z"⟩, 9) := ⟨⟨by decide +kernel, by decide +kernel⟩, List.mem_of_getElem? (i := 9) (by decide +kernel), List.mem_of_getElem? (i := 357) (by decide +kernel), List.mem_of_getElem? (i := 358) (by decide +kernel)⟩
theorem lw_p28 : lw_okq (⟨"WaitedCommits", "earliest", "(I)I"⟩, 9) := ⟨⟨by decide +kernel, by decide +kernel⟩, List.mem_of_getElem? (i := 9) (by decide +kernel), List.mem_of_getElem? (i := 361) (by decide +kernel), List.mem_of_getElem? (i := 362) (by decide +kernel)⟩
theorem lw_p29 : lw_okq (⟨"WaitedCommits", "endOne", "(I)V"⟩, 9) := ⟨⟨by decide +kernel, by decide +kernel⟩, List.mem_of_getElem? (i := 9) (by decide +kernel), List.mem_of_getElem? (i := 365) (by decide +kernel), List.mem_of_getElem? (i := 366) (by decide +kernel)⟩
theorem lw_p30 : lw_okq (⟨"WaitedCommitsModel", "least", "(I)I"⟩, 25) := ⟨⟨by decide +kernel, by decide +kernel⟩, List.mem_of_getElem? (i := 413) (by decide +kernel), List.mem_of_getElem? (i := 515) (by decide +kernel), List.mem_of_getElem? (i := 516) (by decide +kernel)⟩
theorem lw_p31 : lw_okq (⟨"WaitedCommitsModel", "takesPart", "(II)Z"⟩, 25) := ⟨⟨by decide +kernel, by decide +kernel⟩, List.mem_of_getElem? (i := 413) (by decide +kernel), List.mem_of_getElem? (i := 519) (by decide +kernel), List.mem_of_getElem? (i := 520) (by decide +kernel)⟩
def lw_privs_2 : List (MethodName × Nat) := [(⟨"WaitedCommits$Key", "valueAt", "(I)J"⟩, 3), (⟨"WaitedCommits", "deliverMessages", "()V"⟩, 9), (⟨"WaitedCommits", "firstDue", "()LWaitedCommits$Message;"⟩, 9), (⟨"WaitedCommits", "isDue", "(LWaitedCommits$Message;)Z"⟩, 9), (⟨"WaitedCommits$Message", "comesBefore", "(LWaitedCommits$Message;)Z"⟩, 6), (⟨"WaitedCommits", "dealWith", "(LWaitedCommits$Message;)V"⟩, 9), (⟨"WaitedCommits", "takePrepare", "(II)V"⟩, 9), (⟨"WaitedCommits", "takePrepared", "(LWaitedCommits$Transaction;)V"⟩, 9), (⟨"WaitedCommits", "finishAt", "(LWaitedCommits$Transaction;I)V"⟩, 9), (⟨"WaitedCommits$Key", "add", "(II)V"⟩, 3), (⟨"WaitedCommits", "endWaiting", "()I"⟩, 9), (⟨"WaitedCommits", "mayEnd", "(LWaitedCommits$Transaction;)Z"⟩, 9), (⟨"WaitedCommits", "earliest", "(I)I"⟩, 9), (⟨"WaitedCommits", "endOne", "(I)V"⟩, 9), (⟨"WaitedCommitsModel", "least", "(I)I"⟩, 25), (⟨"WaitedCommitsModel", "takesPart", "(II)Z"⟩, 25)]
theorem lw_r2 : ∀ q ∈ lw_privs_2, lw_okq q := List.forall_mem_cons.mpr ⟨lw_p16, List.forall_mem_cons.mpr ⟨lw_p17, List.forall_mem_cons.mpr ⟨lw_p18, List.forall_mem_cons.mpr ⟨lw_p19, List.forall_mem_cons.mpr ⟨lw_p20, List.forall_mem_cons.mpr ⟨lw_p21, List.forall_mem_cons.mpr ⟨lw_p22, List.forall_mem_cons.mpr ⟨lw_p23, List.forall_mem_cons.mpr ⟨lw_p24, List.forall_mem_cons.mpr ⟨lw_p25, List.forall_mem_cons.mpr ⟨lw_p26, List.forall_mem_cons.mpr ⟨lw_p27, List.forall_mem_cons.mpr ⟨lw_p28, List.forall_mem_cons.mpr ⟨lw_p29, List.forall_mem_cons.mpr ⟨lw_p30, List.forall_mem_cons.mpr ⟨lw_p31, fun _ h => absurd h List.not_mem_nil⟩⟩⟩⟩⟩⟩⟩⟩⟩⟩⟩⟩⟩⟩⟩⟩
theorem lw_p32 : lw_okq (⟨"WaitedCommitsModel", "forget", "(I)V"⟩, 25) := ⟨⟨by decide +kernel, by decide +kernel⟩, List.mem_of_getElem? (i := 413) (by decide +kernel), List.mem_of_getElem? (i := 523) (by decide +kernel), List.mem_of_getElem? (i := 524) (by decide +kernel)⟩
theorem lw_p33 : lw_okq (⟨"WaitedCommitsModel", "active", "(I)Z"⟩, 25) := ⟨⟨by decide +kernel, by decide +kernel⟩, List.mem_of_getElem? (i := 413) (by decide +kernel), List.mem_of_getElem? (i := 531) (by decide +kernel), List.mem_of_getElem? (i := 532) (by decide +kernel)⟩
theorem lw_p34 : lw_okq (⟨"WaitedCommitsModel", "take", "(III)Z"⟩, 25) := ⟨⟨by decide +kernel, by decide +kernel⟩, List.mem_of_getElem? (i := 413) (by decide +kernel), List.mem_of_getElem? (i := 535) (by decide +kernel), List.mem_of_getElem? (i := 536) (by decide +kernel)⟩
theorem lw_p35 : lw_okq (⟨"WaitedCommitsModel", "conflicts", "(IIII)Z"⟩, 25) := ⟨⟨by decide +kernel, by decide +kernel⟩, List.mem_of_getElem? (i := 413) (by decide +kernel), List.mem_of_getElem? (i := 539) (by decide +kernel), List.mem_of_getElem? (i := 540) (by decide +kernel)⟩
theorem lw_p36 : lw_okq (⟨"WaitedCommitsModel", "drop", "(I)V"⟩, 25) := ⟨⟨by decide +kernel, by decide +kernel⟩, List.mem_of_getElem? (i := 413) (by decide +kernel), List.mem_of_getElem? (i := 543) (by decide +kernel), List.mem_of_getElem? (i := 544) (by decide +kernel)⟩
theorem lw_p37 : lw_okq (⟨"WaitedCommitsModel", "find", "(II)I"⟩, 25) := ⟨⟨by decide +kernel, by decide +kernel⟩, List.mem_of_getElem? (i := 413) (by decide +kernel), List.mem_of_getElem? (i := 548) (by decide +kernel), List.mem_of_getElem? (i := 549) (by decide +kernel)⟩
theorem lw_p38 : lw_okq (⟨"WaitedCommitsModel", "sendAll", "(III)V"⟩, 25) := ⟨⟨by decide +kernel, by decide +kernel⟩, List.mem_of_getElem? (i := 413) (by decide +kernel), List.mem_of_getElem? (i := 564) (by decide +kernel), List.mem_of_getElem? (i := 565) (by decide +kernel)⟩
theorem lw_p39 : lw_okq (⟨"WaitedCommitsModel", "send", "(IIII)V"⟩, 25) := ⟨⟨by decide +kernel, by decide +kernel⟩, List.mem_of_getElem? (i := 413) (by decide +kernel), List.mem_of_getElem? (i := 568) (by decide +kernel), List.mem_of_getElem? (i := 569) (by decide +kernel)⟩
theorem lw_p40 : lw_okq (⟨"WaitedCommitsModel", "stampIfAll", "(I)V"⟩, 25) := ⟨⟨by decide +kernel, by decide +kernel⟩, List.mem_of_getElem? (i := 413) (by decide +kernel), List.mem_of_getElem? (i := 572) (by decide +kernel), List.mem_of_getElem? (i := 573) (by decide +kernel)⟩
theorem lw_p41 : lw_okq (⟨"WaitedCommitsModel", "put", "(III)V"⟩, 25) := ⟨⟨by decide +kernel, by decide +kernel⟩, List.mem_of_getElem? (i := 413) (by decide +kernel), List.mem_of_getElem? (i := 576) (by decide +kernel), List.mem_of_getElem? (i := 577) (by decide +kernel)⟩
theorem lw_p42 : lw_okq (⟨"WaitedCommitsModel", "next", "()I"⟩, 25) := ⟨⟨by decide +kernel, by decide +kernel⟩, List.mem_of_getElem? (i := 413) (by decide +kernel), List.mem_of_getElem? (i := 584) (by decide +kernel), List.mem_of_getElem? (i := 585) (by decide +kernel)⟩
theorem lw_p43 : lw_okq (⟨"WaitedCommitsModel", "deal", "(I)V"⟩, 25) := ⟨⟨by decide +kernel, by decide +kernel⟩, List.mem_of_getElem? (i := 413) (by decide +kernel), List.mem_of_getElem? (i := 588) (by decide +kernel), List.mem_of_getElem? (i := 589) (by decide +kernel)⟩
theorem lw_p44 : lw_okq (⟨"WaitedCommitsModel", "finish", "(II)V"⟩, 25) := ⟨⟨by decide +kernel, by decide +kernel⟩, List.mem_of_getElem? (i := 413) (by decide +kernel), List.mem_of_getElem? (i := 592) (by decide +kernel), List.mem_of_getElem? (i := 593) (by decide +kernel)⟩
theorem lw_p45 : lw_okq (⟨"WaitedCommitsModel", "raise", "(II)V"⟩, 25) := ⟨⟨by decide +kernel, by decide +kernel⟩, List.mem_of_getElem? (i := 413) (by decide +kernel), List.mem_of_getElem? (i := 596) (by decide +kernel), List.mem_of_getElem? (i := 597) (by decide +kernel)⟩
def lw_privs_3 : List (MethodName × Nat) := [(⟨"WaitedCommitsModel", "forget", "(I)V"⟩, 25), (⟨"WaitedCommitsModel", "active", "(I)Z"⟩, 25), (⟨"WaitedCommitsModel", "take", "(III)Z"⟩, 25), (⟨"WaitedCommitsModel", "conflicts", "(IIII)Z"⟩, 25), (⟨"WaitedCommitsModel", "drop", "(I)V"⟩, 25), (⟨"WaitedCommitsModel", "find", "(II)I"⟩, 25), (⟨"WaitedCommitsModel", "sendAll", "(III)V"⟩, 25), (⟨"WaitedCommitsModel", "send", "(IIII)V"⟩, 25), (⟨"WaitedCommitsModel", "stampIfAll", "(I)V"⟩, 25), (⟨"WaitedCommitsModel", "put", "(III)V"⟩, 25), (⟨"WaitedCommitsModel", "next", "()I"⟩, 25), (⟨"WaitedCommitsModel", "deal", "(I)V"⟩, 25), (⟨"WaitedCommitsModel", "finish", "(II)V"⟩, 25), (⟨"WaitedCommitsModel", "raise", "(II)V"⟩, 25)]
theorem lw_r3 : ∀ q ∈ lw_privs_3, lw_okq q := List.forall_mem_cons.mpr ⟨lw_p32, List.forall_mem_cons.mpr ⟨lw_p33, List.forall_mem_cons.mpr ⟨lw_p34, List.forall_mem_cons.mpr ⟨lw_p35, List.forall_mem_cons.mpr ⟨lw_p36, List.forall_mem_cons.mpr ⟨lw_p37, List.forall_mem_cons.mpr ⟨lw_p38, List.forall_mem_cons.mpr ⟨lw_p39, List.forall_mem_cons.mpr ⟨lw_p40, List.forall_mem_cons.mpr ⟨lw_p41, List.forall_mem_cons.mpr ⟨lw_p42, List.forall_mem_cons.mpr ⟨lw_p43, List.forall_mem_cons.mpr ⟨lw_p44, List.forall_mem_cons.mpr ⟨lw_p45, fun _ h => absurd h List.not_mem_nil⟩⟩⟩⟩⟩⟩⟩⟩⟩⟩⟩⟩⟩⟩
def lw_privs : List (MethodName × Nat) := lw_privs_1 ++ (lw_privs_2 ++ (lw_privs_3))
def lw_tbl : List Cond := k2_sels lw_privs ++ tables_1
theorem lw_privs_ok : ∀ q ∈ lw_privs, lw_okq q := by
  show ∀ q ∈ lw_privs_1 ++ (lw_privs_2 ++ (lw_privs_3)), lw_okq q
  exact List.forall_mem_append.mpr ⟨lw_r1, List.forall_mem_append.mpr ⟨lw_r2, lw_r3⟩⟩
end
section
/-! Names: classes, fields, methods, the tables' words that the walks use. Written by wip/whole/names.py. -/
def RW : String := "WaitedCommits"
def TW : u_T := fun k => match k with
  | 0 => ("WaitedCommits", "greatestError", "I", true)
  | 1 => ("WaitedCommits", "sites", "[LWaitedCommits$Site;", true)
  | 2 => ("WaitedCommits", "keys", "[LWaitedCommits$Key;", true)
  | 3 => ("WaitedCommits", "transactions", "[LWaitedCommits$Transaction;", true)
  | 4 => ("WaitedCommits", "slots", "[LWaitedCommits$Message;", true)
  | 5 => ("WaitedCommits", "time", "I", false)
  | 6 => ("WaitedCommits", "begun", "I", false)
  | 7 => ("WaitedCommits", "sent", "I", false)
  | _ => ("WaitedCommits", "underWay", "I", false)
def tyW : Nat → FieldType := fun k => match k with
  | 0 => .int
  | 1 => .array (.object "WaitedCommits$Site")
  | 2 => .array (.object "WaitedCommits$Key")
  | 3 => .array (.object "WaitedCommits$Transaction")
  | 4 => .array (.object "WaitedCommits$Message")
  | 5 => .int
  | 6 => .int
  | 7 => .int
  | _ => .int
theorem nmW : ∀ a, a < 9 → ∀ b, b < 9 → a ≠ b → (TW a).2.1 ≠ (TW b).2.1 := by decide +kernel
theorem tyW_ok : ∀ k, k < 9 → parseFieldDescriptor (TW k).2.2.1 = some (tyW k) := by decide +kernel
def RS : String := "WaitedCommits$Site"
def TS : u_T := fun k => match k with
  | 0 => ("WaitedCommits$Site", "before", "I", false)
  | 1 => ("WaitedCommits$Site", "after", "I", false)
  | 2 => ("WaitedCommits$Site", "delay", "I", false)
  | 3 => ("WaitedCommits$Site", "isUp", "Z", false)
  | _ => ("WaitedCommits$Site", "bound", "I", false)
def tyS : Nat → FieldType := fun k => match k with
  | 0 => .int
  | 1 => .int
  | 2 => .int
  | 3 => .boolean
  | _ => .int
theorem nmS : ∀ a, a < 5 → ∀ b, b < 5 → a ≠ b → (TS a).2.1 ≠ (TS b).2.1 := by decide +kernel
theorem tyS_ok : ∀ k, k < 5 → parseFieldDescriptor (TS k).2.2.1 = some (tyS k) := by decide +kernel
def RK : String := "WaitedCommits$Key"
def TK : u_T := fun k => match k with
  | 0 => ("WaitedCommits$Key", "values", "[I", true)
  | 1 => ("WaitedCommits$Key", "stamps", "[I", true)
  | _ => ("WaitedCommits$Key", "count", "I", false)
def tyK : Nat → FieldType := fun k => match k with
  | 0 => .array .int
  | 1 => .array .int
  | _ => .int
theorem nmK : ∀ a, a < 3 → ∀ b, b < 3 → a ≠ b → (TK a).2.1 ≠ (TK b).2.1 := by decide +kernel
theorem tyK_ok : ∀ k, k < 3 → parseFieldDescriptor (TK k).2.2.1 = some (tyK k) := by decide +kernel
def RT : String := "WaitedCommits$Transaction"
def TT : u_T := fun k => match k with
  | 0 => ("WaitedCommits$Transaction", "state", "I", false)
  | 1 => ("WaitedCommits$Transaction", "birth", "I", false)
  | 2 => ("WaitedCommits$Transaction", "coordinator", "I", false)
  | 3 => ("WaitedCommits$Transaction", "floor", "I", false)
  | 4 => ("WaitedCommits$Transaction", "awaited", "I", false)
  | 5 => ("WaitedCommits$Transaction", "stamp", "I", false)
  | 6 => ("WaitedCommits$Transaction", "end", "I", false)
  | 7 => ("WaitedCommits$Transaction", "locks", "[I", true)
  | 8 => ("WaitedCommits$Transaction", "written", "[I", true)
  | _ => ("WaitedCommits$Transaction", "marks", "[I", true)
def tyT : Nat → FieldType := fun k => match k with
  | 0 => .int
  | 1 => .int
  | 2 => .int
  | 3 => .int
  | 4 => .int
  | 5 => .int
  | 6 => .int
  | 7 => .array .int
  | 8 => .array .int
  | _ => .array .int
theorem nmT : ∀ a, a < 10 → ∀ b, b < 10 → a ≠ b → (TT a).2.1 ≠ (TT b).2.1 := by decide +kernel
theorem tyT_ok : ∀ k, k < 10 → parseFieldDescriptor (TT k).2.2.1 = some (tyT k) := by decide +kernel
def RG : String := "WaitedCommits$Message"
def TG : u_T := fun k => match k with
  | 0 => ("WaitedCommits$Message", "transaction", "I", true)
  | 1 => ("WaitedCommits$Message", "participant", "I", true)
  | 2 => ("WaitedCommits$Message", "kind", "I", false)
  | 3 => ("WaitedCommits$Message", "receiver", "I", false)
  | 4 => ("WaitedCommits$Message", "arrival", "I", false)
  | _ => ("WaitedCommits$Message", "order", "I", false)
def tyG : Nat → FieldType := fun k => match k with
  | 0 => .int
  | 1 => .int
  | 2 => .int
  | 3 => .int
  | 4 => .int
  | _ => .int
theorem nmG : ∀ a, a < 6 → ∀ b, b < 6 → a ≠ b → (TG a).2.1 ≠ (TG b).2.1 := by decide +kernel
theorem tyG_ok : ∀ k, k < 6 → parseFieldDescriptor (TG k).2.2.1 = some (tyG k) := by decide +kernel
def RM : String := "WaitedCommitsModel"
def TM : u_T := fun k => match k with
  | 0 => ("WaitedCommitsModel", "e", "I", false)
  | 1 => ("WaitedCommitsModel", "now", "I", false)
  | 2 => ("WaitedCommitsModel", "early", "[I", false)
  | 3 => ("WaitedCommitsModel", "late", "[I", false)
  | 4 => ("WaitedCommitsModel", "slow", "[I", false)
  | 5 => ("WaitedCommitsModel", "down", "[Z", false)
  | 6 => ("WaitedCommitsModel", "bound", "[I", false)
  | 7 => ("WaitedCommitsModel", "versions", "I", false)
  | 8 => ("WaitedCommitsModel", "versionKey", "[I", false)
  | 9 => ("WaitedCommitsModel", "versionStamp", "[I", false)
  | 10 => ("WaitedCommitsModel", "versionValue", "[I", false)
  | 11 => ("WaitedCommitsModel", "begun", "I", false)
  | 12 => ("WaitedCommitsModel", "state", "[I", false)
  | 13 => ("WaitedCommitsModel", "age", "[I", false)
  | 14 => ("WaitedCommitsModel", "stamp", "[I", false)
  | 15 => ("WaitedCommitsModel", "floor", "[I", false)
  | 16 => ("WaitedCommitsModel", "ended", "[I", false)
  | 17 => ("WaitedCommitsModel", "lock", "[I", false)
  | 18 => ("WaitedCommitsModel", "wrote", "[Z", false)
  | 19 => ("WaitedCommitsModel", "value", "[I", false)
  | 20 => ("WaitedCommitsModel", "marked", "[Z", false)
  | 21 => ("WaitedCommitsModel", "mark", "[I", false)
  | 22 => ("WaitedCommitsModel", "sent", "I", false)
  | 23 => ("WaitedCommitsModel", "arrives", "[I", false)
  | _ => ("WaitedCommitsModel", "number", "[I", false)
def tyM : Nat → FieldType := fun k => match k with
  | 0 => .int
  | 1 => .int
  | 2 => .array .int
  | 3 => .array .int
  | 4 => .array .int
  | 5 => .array .boolean
  | 6 => .array .int
  | 7 => .int
  | 8 => .array .int
  | 9 => .array .int
  | 10 => .array .int
  | 11 => .int
  | 12 => .array .int
  | 13 => .array .int
  | 14 => .array .int
  | 15 => .array .int
  | 16 => .array .int
  | 17 => .array .int
  | 18 => .array .boolean
  | 19 => .array .int
  | 20 => .array .boolean
  | 21 => .array .int
  | 22 => .int
  | 23 => .array .int
  | _ => .array .int
theorem nmM : ∀ a, a < 25 → ∀ b, b < 25 → a ≠ b → (TM a).2.1 ≠ (TM b).2.1 := by decide +kernel
theorem tyM_ok : ∀ k, k < 25 → parseFieldDescriptor (TM k).2.2.1 = some (tyM k) := by decide +kernel
abbrev vwCl : List vw_C := [(RW, TW, 9), (RS, TS, 5), (RK, TK, 3), (RT, TT, 10), (RG, TG, 6), (RM, TM, 25)]
abbrev cW_init : ByteArray := prog_1_method_1_code
def yW_init : MethodName := ⟨"WaitedCommits", "<init>", "(I)V"⟩
abbrev cW_clock : ByteArray := prog_1_method_2_code
def yW_clock : MethodName := ⟨"WaitedCommits", "clock", "(III)Z"⟩
abbrev cW_delay : ByteArray := prog_1_method_3_code
def yW_delay : MethodName := ⟨"WaitedCommits", "delay", "(II)Z"⟩
abbrev cW_power : ByteArray := prog_1_method_4_code
def yW_power : MethodName := ⟨"WaitedCommits", "power", "(IZ)Z"⟩
abbrev cW_begin : ByteArray := prog_1_method_5_code
def yW_begin : MethodName := ⟨"WaitedCommits", "begin", "(I)Z"⟩
abbrev cW_read : ByteArray := prog_1_method_6_code
def yW_read : MethodName := ⟨"WaitedCommits", "read", "(II)J"⟩
abbrev cW_write : ByteArray := prog_1_method_7_code
def yW_write : MethodName := ⟨"WaitedCommits", "write", "(III)Z"⟩
abbrev cW_commit : ByteArray := prog_1_method_8_code
def yW_commit : MethodName := ⟨"WaitedCommits", "commit", "(I)Z"⟩
abbrev cW_abort : ByteArray := prog_1_method_9_code
def yW_abort : MethodName := ⟨"WaitedCommits", "abort", "(I)Z"⟩
abbrev cW_readAt : ByteArray := prog_1_method_10_code
def yW_readAt : MethodName := ⟨"WaitedCommits", "readAt", "(II)J"⟩
abbrev cW_step : ByteArray := prog_1_method_11_code
def yW_step : MethodName := ⟨"WaitedCommits", "step", "(I)I"⟩
abbrev cW_now : ByteArray := prog_1_method_12_code
def yW_now : MethodName := ⟨"WaitedCommits", "now", "()I"⟩
abbrev cW_state : ByteArray := prog_1_method_13_code
def yW_state : MethodName := ⟨"WaitedCommits", "state", "(I)I"⟩
abbrev cW_stamp : ByteArray := prog_1_method_14_code
def yW_stamp : MethodName := ⟨"WaitedCommits", "stamp", "(I)I"⟩
abbrev cW_end : ByteArray := prog_1_method_15_code
def yW_end : MethodName := ⟨"WaitedCommits", "end", "(I)I"⟩
abbrev cW_marks : ByteArray := prog_1_method_16_code
def yW_marks : MethodName := ⟨"WaitedCommits", "marks", "(I)I"⟩
abbrev cW_safe : ByteArray := prog_1_method_17_code
def yW_safe : MethodName := ⟨"WaitedCommits", "safe", "(I)I"⟩
abbrev cW_bound : ByteArray := prog_1_method_18_code
def yW_bound : MethodName := ⟨"WaitedCommits", "bound", "(I)I"⟩
abbrev cW_holders : ByteArray := prog_1_method_19_code
def yW_holders : MethodName := ⟨"WaitedCommits", "holders", "(I)I"⟩
abbrev cW_version : ByteArray := prog_1_method_20_code
def yW_version : MethodName := ⟨"WaitedCommits", "version", "(II)I"⟩
abbrev cW_messages : ByteArray := prog_1_method_21_code
def yW_messages : MethodName := ⟨"WaitedCommits", "messages", "()I"⟩
abbrev cW_isSite : ByteArray := prog_1_method_22_code
def yW_isSite : MethodName := ⟨"WaitedCommits", "isSite", "(I)Z"⟩
abbrev cW_isKey : ByteArray := prog_1_method_23_code
def yW_isKey : MethodName := ⟨"WaitedCommits", "isKey", "(I)Z"⟩
abbrev cW_isTransaction : ByteArray := prog_1_method_24_code
def yW_isTransaction : MethodName := ⟨"WaitedCommits", "isTransaction", "(I)Z"⟩
abbrev cW_siteOf : ByteArray := prog_1_method_25_code
def yW_siteOf : MethodName := ⟨"WaitedCommits", "siteOf", "(I)I"⟩
abbrev cW_canBegin : ByteArray := prog_1_method_26_code
def yW_canBegin : MethodName := ⟨"WaitedCommits", "canBegin", "(LWaitedCommits$Transaction;)Z"⟩
abbrev cW_isError : ByteArray := prog_1_method_27_code
def yW_isError : MethodName := ⟨"WaitedCommits", "isError", "(I)Z"⟩
abbrev cW_isActive : ByteArray := prog_1_method_28_code
def yW_isActive : MethodName := ⟨"WaitedCommits", "isActive", "(I)Z"⟩
abbrev cW_latest : ByteArray := prog_1_method_29_code
def yW_latest : MethodName := ⟨"WaitedCommits", "latest", "(I)I"⟩
abbrev cW_earliest : ByteArray := prog_1_method_30_code
def yW_earliest : MethodName := ⟨"WaitedCommits", "earliest", "(I)I"⟩
abbrev cW_leastMark : ByteArray := prog_1_method_31_code
def yW_leastMark : MethodName := ⟨"WaitedCommits", "leastMark", "(I)I"⟩
abbrev cW_greatestReadyTime : ByteArray := prog_1_method_32_code
def yW_greatestReadyTime : MethodName := ⟨"WaitedCommits", "greatestReadyTime", "(I)I"⟩
abbrev cW_lock : ByteArray := prog_1_method_33_code
def yW_lock : MethodName := ⟨"WaitedCommits", "lock", "(LWaitedCommits$Transaction;II)Z"⟩
abbrev cW_conflicts : ByteArray := prog_1_method_34_code
def yW_conflicts : MethodName := ⟨"WaitedCommits", "conflicts", "(LWaitedCommits$Transaction;LWaitedCommits$Transaction;II)Z"⟩
abbrev cW_canPushAside : ByteArray := prog_1_method_35_code
def yW_canPushAside : MethodName := ⟨"WaitedCommits", "canPushAside", "(LWaitedCommits$Transaction;LWaitedCommits$Transaction;)Z"⟩
abbrev cW_prepare : ByteArray := prog_1_method_36_code
def yW_prepare : MethodName := ⟨"WaitedCommits", "prepare", "(I)V"⟩
abbrev cW_sendToOthers : ByteArray := prog_1_method_37_code
def yW_sendToOthers : MethodName := ⟨"WaitedCommits", "sendToOthers", "(II)I"⟩
abbrev cW_send : ByteArray := prog_1_method_38_code
def yW_send : MethodName := ⟨"WaitedCommits", "send", "(III)V"⟩
abbrev cW_deliverMessages : ByteArray := prog_1_method_39_code
def yW_deliverMessages : MethodName := ⟨"WaitedCommits", "deliverMessages", "()V"⟩
abbrev cW_firstDue : ByteArray := prog_1_method_40_code
def yW_firstDue : MethodName := ⟨"WaitedCommits", "firstDue", "()LWaitedCommits$Message;"⟩
abbrev cW_isDue : ByteArray := prog_1_method_41_code
def yW_isDue : MethodName := ⟨"WaitedCommits", "isDue", "(LWaitedCommits$Message;)Z"⟩
abbrev cW_dealWith : ByteArray := prog_1_method_42_code
def yW_dealWith : MethodName := ⟨"WaitedCommits", "dealWith", "(LWaitedCommits$Message;)V"⟩
abbrev cW_takePrepare : ByteArray := prog_1_method_43_code
def yW_takePrepare : MethodName := ⟨"WaitedCommits", "takePrepare", "(II)V"⟩
abbrev cW_takePrepared : ByteArray := prog_1_method_44_code
def yW_takePrepared : MethodName := ⟨"WaitedCommits", "takePrepared", "(LWaitedCommits$Transaction;)V"⟩
abbrev cW_chooseStamp : ByteArray := prog_1_method_45_code
def yW_chooseStamp : MethodName := ⟨"WaitedCommits", "chooseStamp", "(LWaitedCommits$Transaction;)V"⟩
abbrev cW_endWaiting : ByteArray := prog_1_method_46_code
def yW_endWaiting : MethodName := ⟨"WaitedCommits", "endWaiting", "()I"⟩
abbrev cW_mayEnd : ByteArray := prog_1_method_47_code
def yW_mayEnd : MethodName := ⟨"WaitedCommits", "mayEnd", "(LWaitedCommits$Transaction;)Z"⟩
abbrev cW_endOne : ByteArray := prog_1_method_48_code
def yW_endOne : MethodName := ⟨"WaitedCommits", "endOne", "(I)V"⟩
abbrev cW_finishAt : ByteArray := prog_1_method_49_code
def yW_finishAt : MethodName := ⟨"WaitedCommits", "finishAt", "(LWaitedCommits$Transaction;I)V"⟩
abbrev cS_init : ByteArray := prog_4_method_1_code
def yS_init : MethodName := ⟨"WaitedCommits$Site", "<init>", "(I)V"⟩
abbrev cS_raiseBound : ByteArray := prog_4_method_2_code
def yS_raiseBound : MethodName := ⟨"WaitedCommits$Site", "raiseBound", "(I)V"⟩
abbrev cK_init : ByteArray := prog_2_method_1_code
def yK_init : MethodName := ⟨"WaitedCommits$Key", "<init>", "()V"⟩
abbrev cK_add : ByteArray := prog_2_method_2_code
def yK_add : MethodName := ⟨"WaitedCommits$Key", "add", "(II)V"⟩
abbrev cK_valueAt : ByteArray := prog_2_method_3_code
def yK_valueAt : MethodName := ⟨"WaitedCommits$Key", "valueAt", "(I)J"⟩
abbrev cT_init : ByteArray := prog_5_method_1_code
def yT_init : MethodName := ⟨"WaitedCommits$Transaction", "<init>", "()V"⟩
abbrev cT_holdsAt : ByteArray := prog_5_method_2_code
def yT_holdsAt : MethodName := ⟨"WaitedCommits$Transaction", "holdsAt", "(I)Z"⟩
abbrev cT_leastParticipant : ByteArray := prog_5_method_3_code
def yT_leastParticipant : MethodName := ⟨"WaitedCommits$Transaction", "leastParticipant", "()I"⟩
abbrev cT_unlockAt : ByteArray := prog_5_method_4_code
def yT_unlockAt : MethodName := ⟨"WaitedCommits$Transaction", "unlockAt", "(I)V"⟩
abbrev cT_giveUp : ByteArray := prog_5_method_5_code
def yT_giveUp : MethodName := ⟨"WaitedCommits$Transaction", "giveUp", "()V"⟩
abbrev cT_greatestMark : ByteArray := prog_5_method_6_code
def yT_greatestMark : MethodName := ⟨"WaitedCommits$Transaction", "greatestMark", "()I"⟩
abbrev cG_init : ByteArray := prog_3_method_1_code
def yG_init : MethodName := ⟨"WaitedCommits$Message", "<init>", "(II)V"⟩
abbrev cG_comesBefore : ByteArray := prog_3_method_2_code
def yG_comesBefore : MethodName := ⟨"WaitedCommits$Message", "comesBefore", "(LWaitedCommits$Message;)Z"⟩
abbrev cM_init : ByteArray := prog_7_method_1_code
def yM_init : MethodName := ⟨"WaitedCommitsModel", "<init>", "(I)V"⟩
abbrev cM_in : ByteArray := prog_7_method_2_code
def yM_in : MethodName := ⟨"WaitedCommitsModel", "in", "(II)Z"⟩
abbrev cM_clock : ByteArray := prog_7_method_3_code
def yM_clock : MethodName := ⟨"WaitedCommitsModel", "clock", "(III)Z"⟩
abbrev cM_delay : ByteArray := prog_7_method_4_code
def yM_delay : MethodName := ⟨"WaitedCommitsModel", "delay", "(II)Z"⟩
abbrev cM_power : ByteArray := prog_7_method_5_code
def yM_power : MethodName := ⟨"WaitedCommitsModel", "power", "(IZ)Z"⟩
abbrev cM_raise : ByteArray := prog_7_method_6_code
def yM_raise : MethodName := ⟨"WaitedCommitsModel", "raise", "(II)V"⟩
abbrev cM_active : ByteArray := prog_7_method_7_code
def yM_active : MethodName := ⟨"WaitedCommitsModel", "active", "(I)Z"⟩
abbrev cM_takesPart : ByteArray := prog_7_method_8_code
def yM_takesPart : MethodName := ⟨"WaitedCommitsModel", "takesPart", "(II)Z"⟩
abbrev cM_least : ByteArray := prog_7_method_9_code
def yM_least : MethodName := ⟨"WaitedCommitsModel", "least", "(I)I"⟩
abbrev cM_forget : ByteArray := prog_7_method_10_code
def yM_forget : MethodName := ⟨"WaitedCommitsModel", "forget", "(I)V"⟩
abbrev cM_begin : ByteArray := prog_7_method_11_code
def yM_begin : MethodName := ⟨"WaitedCommitsModel", "begin", "(I)Z"⟩
abbrev cM_conflicts : ByteArray := prog_7_method_12_code
def yM_conflicts : MethodName := ⟨"WaitedCommitsModel", "conflicts", "(IIII)Z"⟩
abbrev cM_take : ByteArray := prog_7_method_13_code
def yM_take : MethodName := ⟨"WaitedCommitsModel", "take", "(III)Z"⟩
abbrev cM_drop : ByteArray := prog_7_method_14_code
def yM_drop : MethodName := ⟨"WaitedCommitsModel", "drop", "(I)V"⟩
abbrev cM_read : ByteArray := prog_7_method_15_code
def yM_read : MethodName := ⟨"WaitedCommitsModel", "read", "(II)J"⟩
abbrev cM_write : ByteArray := prog_7_method_16_code
def yM_write : MethodName := ⟨"WaitedCommitsModel", "write", "(III)Z"⟩
abbrev cM_abort : ByteArray := prog_7_method_17_code
def yM_abort : MethodName := ⟨"WaitedCommitsModel", "abort", "(I)Z"⟩
abbrev cM_send : ByteArray := prog_7_method_18_code
def yM_send : MethodName := ⟨"WaitedCommitsModel", "send", "(IIII)V"⟩
abbrev cM_sendAll : ByteArray := prog_7_method_19_code
def yM_sendAll : MethodName := ⟨"WaitedCommitsModel", "sendAll", "(III)V"⟩
abbrev cM_commit : ByteArray := prog_7_method_20_code
def yM_commit : MethodName := ⟨"WaitedCommitsModel", "commit", "(I)Z"⟩
abbrev cM_stampIfAll : ByteArray := prog_7_method_21_code
def yM_stampIfAll : MethodName := ⟨"WaitedCommitsModel", "stampIfAll", "(I)V"⟩
abbrev cM_put : ByteArray := prog_7_method_22_code
def yM_put : MethodName := ⟨"WaitedCommitsModel", "put", "(III)V"⟩
abbrev cM_deal : ByteArray := prog_7_method_23_code
def yM_deal : MethodName := ⟨"WaitedCommitsModel", "deal", "(I)V"⟩
abbrev cM_finish : ByteArray := prog_7_method_24_code
def yM_finish : MethodName := ⟨"WaitedCommitsModel", "finish", "(II)V"⟩
abbrev cM_next : ByteArray := prog_7_method_25_code
def yM_next : MethodName := ⟨"WaitedCommitsModel", "next", "()I"⟩
abbrev cM_step : ByteArray := prog_7_method_26_code
def yM_step : MethodName := ⟨"WaitedCommitsModel", "step", "(I)I"⟩
abbrev cM_find : ByteArray := prog_7_method_27_code
def yM_find : MethodName := ⟨"WaitedCommitsModel", "find", "(II)I"⟩
abbrev cM_version : ByteArray := prog_7_method_28_code
def yM_version : MethodName := ⟨"WaitedCommitsModel", "version", "(II)I"⟩
abbrev cM_readAt : ByteArray := prog_7_method_29_code
def yM_readAt : MethodName := ⟨"WaitedCommitsModel", "readAt", "(II)J"⟩
abbrev cM_now : ByteArray := prog_7_method_30_code
def yM_now : MethodName := ⟨"WaitedCommitsModel", "now", "()I"⟩
abbrev cM_state : ByteArray := prog_7_method_31_code
def yM_state : MethodName := ⟨"WaitedCommitsModel", "state", "(I)I"⟩
abbrev cM_stamp : ByteArray := prog_7_method_32_code
def yM_stamp : MethodName := ⟨"WaitedCommitsModel", "stamp", "(I)I"⟩
abbrev cM_end : ByteArray := prog_7_method_33_code
def yM_end : MethodName := ⟨"WaitedCommitsModel", "end", "(I)I"⟩
abbrev cM_marks : ByteArray := prog_7_method_34_code
def yM_marks : MethodName := ⟨"WaitedCommitsModel", "marks", "(I)I"⟩
abbrev cM_safe : ByteArray := prog_7_method_35_code
def yM_safe : MethodName := ⟨"WaitedCommitsModel", "safe", "(I)I"⟩
abbrev cM_bound : ByteArray := prog_7_method_36_code
def yM_bound : MethodName := ⟨"WaitedCommitsModel", "bound", "(I)I"⟩
abbrev cM_holders : ByteArray := prog_7_method_37_code
def yM_holders : MethodName := ⟨"WaitedCommitsModel", "holders", "(I)I"⟩
abbrev cM_messages : ByteArray := prog_7_method_38_code
def yM_messages : MethodName := ⟨"WaitedCommitsModel", "messages", "()I"⟩
abbrev cL_cell : ByteArray := method_2_code
def yL_cell : MethodName := ⟨"WaitedCommitsLaw", "cell", "([II)I"⟩
abbrev cL_law : ByteArray := code
def yL_law : MethodName := ⟨"WaitedCommitsLaw", "law", "([I)Z"⟩
end
section
/-! The words of the tables that the walks use, by number. -/
def wc_tb : List Cond := [
  (Jvm.Cond.initialized "WaitedCommitsLaw"),
  (Jvm.Cond.initialized "WaitedCommits"),
  (Jvm.Cond.initialized "java/lang/Math"),
  (Jvm.Cond.initialized "WaitedCommits$Site"),
  (Jvm.Cond.initialized "WaitedCommits$Key"),
  (Jvm.Cond.initialized "WaitedCommits$Transaction"),
  (Jvm.Cond.initialized "WaitedCommits$Message"),
  (Jvm.Cond.initialized "WaitedCommitsModel"),
  (Jvm.Cond.classLink "WaitedCommitsLaw" (7 : Nat) "WaitedCommits"),
  (Jvm.Cond.instantiable "WaitedCommits" (9 : Nat)),
  (Jvm.Cond.methodLink "WaitedCommitsLaw" (15 : Nat) ({ cls := "WaitedCommits", name := "<init>", desc := "(I)V" } : Jvm.MethodName)),
  (Jvm.Cond.instanceMethod ({ cls := "WaitedCommits", name := "<init>", desc := "(I)V" } : Jvm.MethodName)),
  (Jvm.Cond.code ({ cls := "WaitedCommits", name := "<init>", desc := "(I)V" } : Jvm.MethodName) prog_1_method_1_code (4 : Nat) (Option.none : Option Jvm.ClassFile.FieldType)),
  (Jvm.Cond.methodLink "WaitedCommits" (1 : Nat) ({ cls := "java/lang/Object", name := "<init>", desc := "()V" } : Jvm.MethodName)),
  (Jvm.Cond.instanceMethod ({ cls := "java/lang/Object", name := "<init>", desc := "()V" } : Jvm.MethodName)),
  (Jvm.Cond.code ({ cls := "java/lang/Object", name := "<init>", desc := "()V" } : Jvm.MethodName) object_method_1_code (1 : Nat) (Option.none : Option Jvm.ClassFile.FieldType)),
  (Jvm.Cond.classLink "WaitedCommits" (9 : Nat) "WaitedCommits$Site"),
  (Jvm.Cond.classLink "WaitedCommits" (15 : Nat) "WaitedCommits$Key"),
  (Jvm.Cond.classLink "WaitedCommits" (21 : Nat) "WaitedCommits$Transaction"),
  (Jvm.Cond.classLink "WaitedCommits" (27 : Nat) "WaitedCommits$Message"),
  (Jvm.Cond.methodLink "WaitedCommits" (46 : Nat) ({ cls := "java/lang/Math", name := "min", desc := "(II)I" } : Jvm.MethodName)),
  (Jvm.Cond.static ({ cls := "java/lang/Math", name := "min", desc := "(II)I" } : Jvm.MethodName)),
  (Jvm.Cond.code ({ cls := "java/lang/Math", name := "min", desc := "(II)I" } : Jvm.MethodName) prog_8_method_69_code (2 : Nat) (Option.some Jvm.ClassFile.FieldType.int)),
  (Jvm.Cond.methodLink "WaitedCommits" (52 : Nat) ({ cls := "java/lang/Math", name := "max", desc := "(II)I" } : Jvm.MethodName)),
  (Jvm.Cond.static ({ cls := "java/lang/Math", name := "max", desc := "(II)I" } : Jvm.MethodName)),
  (Jvm.Cond.code ({ cls := "java/lang/Math", name := "max", desc := "(II)I" } : Jvm.MethodName) prog_8_method_65_code (2 : Nat) (Option.some Jvm.ClassFile.FieldType.int)),
  (Jvm.Cond.instantiable "WaitedCommits$Site" (5 : Nat)),
  (Jvm.Cond.methodLinkNest "WaitedCommits" (58 : Nat) ({ cls := "WaitedCommits$Site", name := "<init>", desc := "(I)V" } : Jvm.MethodName) "WaitedCommits"),
  (Jvm.Cond.instanceMethod ({ cls := "WaitedCommits$Site", name := "<init>", desc := "(I)V" } : Jvm.MethodName)),
  (Jvm.Cond.code ({ cls := "WaitedCommits$Site", name := "<init>", desc := "(I)V" } : Jvm.MethodName) prog_4_method_1_code (2 : Nat) (Option.none : Option Jvm.ClassFile.FieldType)),
  (Jvm.Cond.methodLink "WaitedCommits$Site" (1 : Nat) ({ cls := "java/lang/Object", name := "<init>", desc := "()V" } : Jvm.MethodName)),
  (Jvm.Cond.fieldLink "WaitedCommits$Site" (20 : Nat) "WaitedCommits$Site" "before" "I"),
  (Jvm.Cond.fieldLinkNest "WaitedCommits" (73 : Nat) "WaitedCommits$Site" "before" "I" "WaitedCommits"),
  (Jvm.Cond.fieldLink "WaitedCommits$Site" (23 : Nat) "WaitedCommits$Site" "after" "I"),
  (Jvm.Cond.fieldLinkNest "WaitedCommits" (76 : Nat) "WaitedCommits$Site" "after" "I" "WaitedCommits"),
  (Jvm.Cond.fieldLink "WaitedCommits$Site" (7 : Nat) "WaitedCommits$Site" "delay" "I"),
  (Jvm.Cond.fieldLinkNest "WaitedCommits" (79 : Nat) "WaitedCommits$Site" "delay" "I" "WaitedCommits"),
  (Jvm.Cond.fieldLink "WaitedCommits$Site" (13 : Nat) "WaitedCommits$Site" "isUp" "Z"),
  (Jvm.Cond.fieldLinkNest "WaitedCommits" (82 : Nat) "WaitedCommits$Site" "isUp" "Z" "WaitedCommits"),
  (Jvm.Cond.fieldLink "WaitedCommits$Site" (17 : Nat) "WaitedCommits$Site" "bound" "I"),
  (Jvm.Cond.fieldLinkNest "WaitedCommits" (168 : Nat) "WaitedCommits$Site" "bound" "I" "WaitedCommits"),
  (Jvm.Cond.lays "WaitedCommits$Site" "WaitedCommits$Site" "before" "I"),
  (Jvm.Cond.lays "WaitedCommits$Site" "WaitedCommits$Site" "after" "I"),
  (Jvm.Cond.lays "WaitedCommits$Site" "WaitedCommits$Site" "delay" "I"),
  (Jvm.Cond.lays "WaitedCommits$Site" "WaitedCommits$Site" "isUp" "Z"),
  (Jvm.Cond.lays "WaitedCommits$Site" "WaitedCommits$Site" "bound" "I"),
  (Jvm.Cond.instantiable "WaitedCommits$Key" (3 : Nat)),
  (Jvm.Cond.methodLinkNest "WaitedCommits" (61 : Nat) ({ cls := "WaitedCommits$Key", name := "<init>", desc := "()V" } : Jvm.MethodName) "WaitedCommits"),
  (Jvm.Cond.instanceMethod ({ cls := "WaitedCommits$Key", name := "<init>", desc := "()V" } : Jvm.MethodName)),
  (Jvm.Cond.code ({ cls := "WaitedCommits$Key", name := "<init>", desc := "()V" } : Jvm.MethodName) prog_2_method_1_code (1 : Nat) (Option.none : Option Jvm.ClassFile.FieldType)),
  (Jvm.Cond.methodLink "WaitedCommits$Key" (3 : Nat) ({ cls := "java/lang/Object", name := "<init>", desc := "()V" } : Jvm.MethodName)),
  (Jvm.Cond.fieldLink "WaitedCommits$Key" (9 : Nat) "WaitedCommits$Key" "values" "[I"),
  (Jvm.Cond.fieldLinkNest "WaitedCommits" (118 : Nat) "WaitedCommits$Key" "values" "[I" "WaitedCommits"),
  (Jvm.Cond.fieldLink "WaitedCommits$Key" (15 : Nat) "WaitedCommits$Key" "stamps" "[I"),
  (Jvm.Cond.fieldLinkNest "WaitedCommits" (174 : Nat) "WaitedCommits$Key" "stamps" "[I" "WaitedCommits"),
  (Jvm.Cond.fieldLink "WaitedCommits$Key" (18 : Nat) "WaitedCommits$Key" "count" "I"),
  (Jvm.Cond.fieldLinkNest "WaitedCommits" (171 : Nat) "WaitedCommits$Key" "count" "I" "WaitedCommits"),
  (Jvm.Cond.laysFinal "WaitedCommits$Key" "WaitedCommits$Key" "values" "[I"),
  (Jvm.Cond.laysFinal "WaitedCommits$Key" "WaitedCommits$Key" "stamps" "[I"),
  (Jvm.Cond.lays "WaitedCommits$Key" "WaitedCommits$Key" "count" "I"),
  (Jvm.Cond.instantiable "WaitedCommits$Transaction" (10 : Nat)),
  (Jvm.Cond.methodLinkNest "WaitedCommits" (62 : Nat) ({ cls := "WaitedCommits$Transaction", name := "<init>", desc := "()V" } : Jvm.MethodName) "WaitedCommits"),
  (Jvm.Cond.instanceMethod ({ cls := "WaitedCommits$Transaction", name := "<init>", desc := "()V" } : Jvm.MethodName)),
  (Jvm.Cond.code ({ cls := "WaitedCommits$Transaction", name := "<init>", desc := "()V" } : Jvm.MethodName) prog_5_method_1_code (1 : Nat) (Option.none : Option Jvm.ClassFile.FieldType)),
  (Jvm.Cond.methodLink "WaitedCommits$Transaction" (3 : Nat) ({ cls := "java/lang/Object", name := "<init>", desc := "()V" } : Jvm.MethodName)),
  (Jvm.Cond.fieldLink "WaitedCommits$Transaction" (9 : Nat) "WaitedCommits$Transaction" "state" "I"),
  (Jvm.Cond.fieldLinkNest "WaitedCommits" (93 : Nat) "WaitedCommits$Transaction" "state" "I" "WaitedCommits"),
  (Jvm.Cond.fieldLink "WaitedCommits$Transaction" (15 : Nat) "WaitedCommits$Transaction" "birth" "I"),
  (Jvm.Cond.fieldLinkNest "WaitedCommits" (96 : Nat) "WaitedCommits$Transaction" "birth" "I" "WaitedCommits"),
  (Jvm.Cond.fieldLink "WaitedCommits$Transaction" (18 : Nat) "WaitedCommits$Transaction" "coordinator" "I"),
  (Jvm.Cond.fieldLinkNest "WaitedCommits" (125 : Nat) "WaitedCommits$Transaction" "coordinator" "I" "WaitedCommits"),
  (Jvm.Cond.fieldLink "WaitedCommits$Transaction" (21 : Nat) "WaitedCommits$Transaction" "floor" "I"),
  (Jvm.Cond.fieldLinkNest "WaitedCommits" (191 : Nat) "WaitedCommits$Transaction" "floor" "I" "WaitedCommits"),
  (Jvm.Cond.fieldLink "WaitedCommits$Transaction" (24 : Nat) "WaitedCommits$Transaction" "awaited" "I"),
  (Jvm.Cond.fieldLinkNest "WaitedCommits" (197 : Nat) "WaitedCommits$Transaction" "awaited" "I" "WaitedCommits"),
  (Jvm.Cond.fieldLink "WaitedCommits$Transaction" (27 : Nat) "WaitedCommits$Transaction" "stamp" "I"),
  (Jvm.Cond.fieldLinkNest "WaitedCommits" (156 : Nat) "WaitedCommits$Transaction" "stamp" "I" "WaitedCommits"),
  (Jvm.Cond.fieldLink "WaitedCommits$Transaction" (30 : Nat) "WaitedCommits$Transaction" "end" "I"),
  (Jvm.Cond.fieldLinkNest "WaitedCommits" (159 : Nat) "WaitedCommits$Transaction" "end" "I" "WaitedCommits"),
  (Jvm.Cond.fieldLink "WaitedCommits$Transaction" (33 : Nat) "WaitedCommits$Transaction" "locks" "[I"),
  (Jvm.Cond.fieldLinkNest "WaitedCommits" (111 : Nat) "WaitedCommits$Transaction" "locks" "[I" "WaitedCommits"),
  (Jvm.Cond.fieldLink "WaitedCommits$Transaction" (37 : Nat) "WaitedCommits$Transaction" "written" "[I"),
  (Jvm.Cond.fieldLinkNest "WaitedCommits" (115 : Nat) "WaitedCommits$Transaction" "written" "[I" "WaitedCommits"),
  (Jvm.Cond.fieldLink "WaitedCommits$Transaction" (40 : Nat) "WaitedCommits$Transaction" "marks" "[I"),
  (Jvm.Cond.fieldLinkNest "WaitedCommits" (162 : Nat) "WaitedCommits$Transaction" "marks" "[I" "WaitedCommits"),
  (Jvm.Cond.lays "WaitedCommits$Transaction" "WaitedCommits$Transaction" "state" "I"),
  (Jvm.Cond.lays "WaitedCommits$Transaction" "WaitedCommits$Transaction" "birth" "I"),
  (Jvm.Cond.lays "WaitedCommits$Transaction" "WaitedCommits$Transaction" "coordinator" "I"),
  (Jvm.Cond.lays "WaitedCommits$Transaction" "WaitedCommits$Transaction" "floor" "I"),
  (Jvm.Cond.lays "WaitedCommits$Transaction" "WaitedCommits$Transaction" "awaited" "I"),
  (Jvm.Cond.lays "WaitedCommits$Transaction" "WaitedCommits$Transaction" "stamp" "I"),
  (Jvm.Cond.lays "WaitedCommits$Transaction" "WaitedCommits$Transaction" "end" "I"),
  (Jvm.Cond.laysFinal "WaitedCommits$Transaction" "WaitedCommits$Transaction" "locks" "[I"),
  (Jvm.Cond.laysFinal "WaitedCommits$Transaction" "WaitedCommits$Transaction" "written" "[I"),
  (Jvm.Cond.laysFinal "WaitedCommits$Transaction" "WaitedCommits$Transaction" "marks" "[I"),
  (Jvm.Cond.instantiable "WaitedCommits$Message" (6 : Nat)),
  (Jvm.Cond.methodLinkNest "WaitedCommits" (63 : Nat) ({ cls := "WaitedCommits$Message", name := "<init>", desc := "(II)V" } : Jvm.MethodName) "WaitedCommits"),
  (Jvm.Cond.instanceMethod ({ cls := "WaitedCommits$Message", name := "<init>", desc := "(II)V" } : Jvm.MethodName)),
  (Jvm.Cond.code ({ cls := "WaitedCommits$Message", name := "<init>", desc := "(II)V" } : Jvm.MethodName) prog_3_method_1_code (3 : Nat) (Option.none : Option Jvm.ClassFile.FieldType)),
  (Jvm.Cond.methodLink "WaitedCommits$Message" (3 : Nat) ({ cls := "java/lang/Object", name := "<init>", desc := "()V" } : Jvm.MethodName)),
  (Jvm.Cond.fieldLink "WaitedCommits$Message" (24 : Nat) "WaitedCommits$Message" "transaction" "I"),
  (Jvm.Cond.fieldLinkNest "WaitedCommits" (238 : Nat) "WaitedCommits$Message" "transaction" "I" "WaitedCommits"),
  (Jvm.Cond.fieldLink "WaitedCommits$Message" (27 : Nat) "WaitedCommits$Message" "participant" "I"),
  (Jvm.Cond.fieldLinkNest "WaitedCommits" (241 : Nat) "WaitedCommits$Message" "participant" "I" "WaitedCommits"),
  (Jvm.Cond.fieldLink "WaitedCommits$Message" (9 : Nat) "WaitedCommits$Message" "kind" "I"),
  (Jvm.Cond.fieldLinkNest "WaitedCommits" (211 : Nat) "WaitedCommits$Message" "kind" "I" "WaitedCommits"),
  (Jvm.Cond.fieldLink "WaitedCommits$Message" (15 : Nat) "WaitedCommits$Message" "receiver" "I"),
  (Jvm.Cond.fieldLinkNest "WaitedCommits" (214 : Nat) "WaitedCommits$Message" "receiver" "I" "WaitedCommits"),
  (Jvm.Cond.fieldLink "WaitedCommits$Message" (18 : Nat) "WaitedCommits$Message" "arrival" "I"),
  (Jvm.Cond.fieldLinkNest "WaitedCommits" (217 : Nat) "WaitedCommits$Message" "arrival" "I" "WaitedCommits"),
  (Jvm.Cond.fieldLink "WaitedCommits$Message" (21 : Nat) "WaitedCommits$Message" "order" "I"),
  (Jvm.Cond.fieldLinkNest "WaitedCommits" (220 : Nat) "WaitedCommits$Message" "order" "I" "WaitedCommits"),
  (Jvm.Cond.laysFinal "WaitedCommits$Message" "WaitedCommits$Message" "transaction" "I"),
  (Jvm.Cond.laysFinal "WaitedCommits$Message" "WaitedCommits$Message" "participant" "I"),
  (Jvm.Cond.lays "WaitedCommits$Message" "WaitedCommits$Message" "kind" "I"),
  (Jvm.Cond.lays "WaitedCommits$Message" "WaitedCommits$Message" "receiver" "I"),
  (Jvm.Cond.lays "WaitedCommits$Message" "WaitedCommits$Message" "arrival" "I"),
  (Jvm.Cond.lays "WaitedCommits$Message" "WaitedCommits$Message" "order" "I"),
  (Jvm.Cond.fieldLink "WaitedCommits" (55 : Nat) "WaitedCommits" "greatestError" "I"),
  (Jvm.Cond.fieldLink "WaitedCommits" (11 : Nat) "WaitedCommits" "sites" "[LWaitedCommits$Site;"),
  (Jvm.Cond.fieldLink "WaitedCommits" (17 : Nat) "WaitedCommits" "keys" "[LWaitedCommits$Key;"),
  (Jvm.Cond.fieldLink "WaitedCommits" (23 : Nat) "WaitedCommits" "transactions" "[LWaitedCommits$Transaction;"),
  (Jvm.Cond.fieldLink "WaitedCommits" (29 : Nat) "WaitedCommits" "slots" "[LWaitedCommits$Message;"),
  (Jvm.Cond.fieldLink "WaitedCommits" (33 : Nat) "WaitedCommits" "time" "I"),
  (Jvm.Cond.fieldLink "WaitedCommits" (37 : Nat) "WaitedCommits" "begun" "I"),
  (Jvm.Cond.fieldLink "WaitedCommits" (40 : Nat) "WaitedCommits" "sent" "I"),
  (Jvm.Cond.fieldLink "WaitedCommits" (43 : Nat) "WaitedCommits" "underWay" "I"),
  (Jvm.Cond.laysFinal "WaitedCommits" "WaitedCommits" "greatestError" "I"),
  (Jvm.Cond.laysFinal "WaitedCommits" "WaitedCommits" "sites" "[LWaitedCommits$Site;"),
  (Jvm.Cond.laysFinal "WaitedCommits" "WaitedCommits" "keys" "[LWaitedCommits$Key;"),
  (Jvm.Cond.laysFinal "WaitedCommits" "WaitedCommits" "transactions" "[LWaitedCommits$Transaction;"),
  (Jvm.Cond.laysFinal "WaitedCommits" "WaitedCommits" "slots" "[LWaitedCommits$Message;"),
  (Jvm.Cond.lays "WaitedCommits" "WaitedCommits" "time" "I"),
  (Jvm.Cond.lays "WaitedCommits" "WaitedCommits" "begun" "I"),
  (Jvm.Cond.lays "WaitedCommits" "WaitedCommits" "sent" "I"),
  (Jvm.Cond.lays "WaitedCommits" "WaitedCommits" "underWay" "I"),
  (Jvm.Cond.methodLink "WaitedCommitsLaw" (21 : Nat) ({ cls := "WaitedCommits", name := "clock", desc := "(III)Z" } : Jvm.MethodName)),
  (Jvm.Cond.instanceMethod ({ cls := "WaitedCommits", name := "clock", desc := "(III)Z" } : Jvm.MethodName)),
  (Jvm.Cond.selects "WaitedCommits" ({ cls := "WaitedCommits", name := "clock", desc := "(III)Z" } : Jvm.MethodName) ({ cls := "WaitedCommits", name := "clock", desc := "(III)Z" } : Jvm.MethodName)),
  (Jvm.Cond.code ({ cls := "WaitedCommits", name := "clock", desc := "(III)Z" } : Jvm.MethodName) prog_1_method_2_code (4 : Nat) (Option.some Jvm.ClassFile.FieldType.boolean)),
  (Jvm.Cond.methodLink "WaitedCommits" (66 : Nat) ({ cls := "WaitedCommits", name := "isSite", desc := "(I)Z" } : Jvm.MethodName)),
  (Jvm.Cond.static ({ cls := "WaitedCommits", name := "isSite", desc := "(I)Z" } : Jvm.MethodName)),
  (Jvm.Cond.code ({ cls := "WaitedCommits", name := "isSite", desc := "(I)Z" } : Jvm.MethodName) prog_1_method_22_code (1 : Nat) (Option.some Jvm.ClassFile.FieldType.boolean)),
  (Jvm.Cond.methodLink "WaitedCommits" (70 : Nat) ({ cls := "WaitedCommits", name := "isError", desc := "(I)Z" } : Jvm.MethodName)),
  (Jvm.Cond.instanceMethod ({ cls := "WaitedCommits", name := "isError", desc := "(I)Z" } : Jvm.MethodName)),
  (Jvm.Cond.code ({ cls := "WaitedCommits", name := "isError", desc := "(I)Z" } : Jvm.MethodName) prog_1_method_27_code (2 : Nat) (Option.some Jvm.ClassFile.FieldType.boolean)),
  (Jvm.Cond.methodLink "WaitedCommitsLaw" (26 : Nat) ({ cls := "WaitedCommits", name := "delay", desc := "(II)Z" } : Jvm.MethodName)),
  (Jvm.Cond.instanceMethod ({ cls := "WaitedCommits", name := "delay", desc := "(II)Z" } : Jvm.MethodName)),
  (Jvm.Cond.selects "WaitedCommits" ({ cls := "WaitedCommits", name := "delay", desc := "(II)Z" } : Jvm.MethodName) ({ cls := "WaitedCommits", name := "delay", desc := "(II)Z" } : Jvm.MethodName)),
  (Jvm.Cond.code ({ cls := "WaitedCommits", name := "delay", desc := "(II)Z" } : Jvm.MethodName) prog_1_method_3_code (3 : Nat) (Option.some Jvm.ClassFile.FieldType.boolean)),
  (Jvm.Cond.methodLink "WaitedCommitsLaw" (31 : Nat) ({ cls := "WaitedCommits", name := "power", desc := "(IZ)Z" } : Jvm.MethodName)),
  (Jvm.Cond.instanceMethod ({ cls := "WaitedCommits", name := "power", desc := "(IZ)Z" } : Jvm.MethodName)),
  (Jvm.Cond.selects "WaitedCommits" ({ cls := "WaitedCommits", name := "power", desc := "(IZ)Z" } : Jvm.MethodName) ({ cls := "WaitedCommits", name := "power", desc := "(IZ)Z" } : Jvm.MethodName)),
  (Jvm.Cond.code ({ cls := "WaitedCommits", name := "power", desc := "(IZ)Z" } : Jvm.MethodName) prog_1_method_4_code (3 : Nat) (Option.some Jvm.ClassFile.FieldType.boolean)),
  (Jvm.Cond.methodLink "WaitedCommitsLaw" (36 : Nat) ({ cls := "WaitedCommits", name := "begin", desc := "(I)Z" } : Jvm.MethodName)),
  (Jvm.Cond.instanceMethod ({ cls := "WaitedCommits", name := "begin", desc := "(I)Z" } : Jvm.MethodName)),
  (Jvm.Cond.selects "WaitedCommits" ({ cls := "WaitedCommits", name := "begin", desc := "(I)Z" } : Jvm.MethodName) ({ cls := "WaitedCommits", name := "begin", desc := "(I)Z" } : Jvm.MethodName)),
  (Jvm.Cond.code ({ cls := "WaitedCommits", name := "begin", desc := "(I)Z" } : Jvm.MethodName) prog_1_method_5_code (2 : Nat) (Option.some Jvm.ClassFile.FieldType.boolean)),
  (Jvm.Cond.methodLink "WaitedCommits" (86 : Nat) ({ cls := "WaitedCommits", name := "isTransaction", desc := "(I)Z" } : Jvm.MethodName)),
  (Jvm.Cond.static ({ cls := "WaitedCommits", name := "isTransaction", desc := "(I)Z" } : Jvm.MethodName)),
  (Jvm.Cond.code ({ cls := "WaitedCommits", name := "isTransaction", desc := "(I)Z" } : Jvm.MethodName) prog_1_method_24_code (1 : Nat) (Option.some Jvm.ClassFile.FieldType.boolean)),
  (Jvm.Cond.methodLink "WaitedCommits" (89 : Nat) ({ cls := "WaitedCommits", name := "canBegin", desc := "(LWaitedCommits$Transaction;)Z" } : Jvm.MethodName)),
  (Jvm.Cond.static ({ cls := "WaitedCommits", name := "canBegin", desc := "(LWaitedCommits$Transaction;)Z" } : Jvm.MethodName)),
  (Jvm.Cond.code ({ cls := "WaitedCommits", name := "canBegin", desc := "(LWaitedCommits$Transaction;)Z" } : Jvm.MethodName) prog_1_method_26_code (2 : Nat) (Option.some Jvm.ClassFile.FieldType.boolean)),
  (Jvm.Cond.methodLinkNest "WaitedCommits" (121 : Nat) ({ cls := "WaitedCommits$Transaction", name := "leastParticipant", desc := "()I" } : Jvm.MethodName) "WaitedCommits"),
  (Jvm.Cond.instanceMethod ({ cls := "WaitedCommits$Transaction", name := "leastParticipant", desc := "()I" } : Jvm.MethodName)),
  (Jvm.Cond.code ({ cls := "WaitedCommits$Transaction", name := "leastParticipant", desc := "()I" } : Jvm.MethodName) prog_5_method_3_code (2 : Nat) (Option.some Jvm.ClassFile.FieldType.int)),
  (Jvm.Cond.methodLink "WaitedCommits$Transaction" (43 : Nat) ({ cls := "WaitedCommits$Transaction", name := "holdsAt", desc := "(I)Z" } : Jvm.MethodName)),
  (Jvm.Cond.instanceMethod ({ cls := "WaitedCommits$Transaction", name := "holdsAt", desc := "(I)Z" } : Jvm.MethodName)),
  (Jvm.Cond.code ({ cls := "WaitedCommits$Transaction", name := "holdsAt", desc := "(I)Z" } : Jvm.MethodName) prog_5_method_2_code (3 : Nat) (Option.some Jvm.ClassFile.FieldType.boolean)),
  (Jvm.Cond.methodLink "WaitedCommitsLaw" (41 : Nat) ({ cls := "WaitedCommits", name := "read", desc := "(II)J" } : Jvm.MethodName)),
  (Jvm.Cond.instanceMethod ({ cls := "WaitedCommits", name := "read", desc := "(II)J" } : Jvm.MethodName)),
  (Jvm.Cond.selects "WaitedCommits" ({ cls := "WaitedCommits", name := "read", desc := "(II)J" } : Jvm.MethodName) ({ cls := "WaitedCommits", name := "read", desc := "(II)J" } : Jvm.MethodName)),
  (Jvm.Cond.code ({ cls := "WaitedCommits", name := "read", desc := "(II)J" } : Jvm.MethodName) prog_1_method_6_code (3 : Nat) (Option.some Jvm.ClassFile.FieldType.long)),
  (Jvm.Cond.methodLink "WaitedCommits" (99 : Nat) ({ cls := "WaitedCommits", name := "isActive", desc := "(I)Z" } : Jvm.MethodName)),
  (Jvm.Cond.instanceMethod ({ cls := "WaitedCommits", name := "isActive", desc := "(I)Z" } : Jvm.MethodName)),
  (Jvm.Cond.code ({ cls := "WaitedCommits", name := "isActive", desc := "(I)Z" } : Jvm.MethodName) prog_1_method_28_code (2 : Nat) (Option.some Jvm.ClassFile.FieldType.boolean)),
  (Jvm.Cond.methodLink "WaitedCommits" (102 : Nat) ({ cls := "WaitedCommits", name := "isKey", desc := "(I)Z" } : Jvm.MethodName)),
  (Jvm.Cond.static ({ cls := "WaitedCommits", name := "isKey", desc := "(I)Z" } : Jvm.MethodName)),
  (Jvm.Cond.code ({ cls := "WaitedCommits", name := "isKey", desc := "(I)Z" } : Jvm.MethodName) prog_1_method_23_code (1 : Nat) (Option.some Jvm.ClassFile.FieldType.boolean)),
  (Jvm.Cond.methodLink "WaitedCommits" (105 : Nat) ({ cls := "WaitedCommits", name := "lock", desc := "(LWaitedCommits$Transaction;II)Z" } : Jvm.MethodName)),
  (Jvm.Cond.instanceMethod ({ cls := "WaitedCommits", name := "lock", desc := "(LWaitedCommits$Transaction;II)Z" } : Jvm.MethodName)),
  (Jvm.Cond.code ({ cls := "WaitedCommits", name := "lock", desc := "(LWaitedCommits$Transaction;II)Z" } : Jvm.MethodName) prog_1_method_33_code (5 : Nat) (Option.some Jvm.ClassFile.FieldType.boolean)),
  (Jvm.Cond.methodLink "WaitedCommits" (134 : Nat) ({ cls := "WaitedCommits", name := "siteOf", desc := "(I)I" } : Jvm.MethodName)),
  (Jvm.Cond.static ({ cls := "WaitedCommits", name := "siteOf", desc := "(I)I" } : Jvm.MethodName)),
  (Jvm.Cond.code ({ cls := "WaitedCommits", name := "siteOf", desc := "(I)I" } : Jvm.MethodName) prog_1_method_25_code (1 : Nat) (Option.some Jvm.ClassFile.FieldType.int)),
  (Jvm.Cond.methodLink "WaitedCommits" (183 : Nat) ({ cls := "WaitedCommits", name := "conflicts", desc := "(LWaitedCommits$Transaction;LWaitedCommits$Transaction;II)Z" } : Jvm.MethodName)),
  (Jvm.Cond.static ({ cls := "WaitedCommits", name := "conflicts", desc := "(LWaitedCommits$Transaction;LWaitedCommits$Transaction;II)Z" } : Jvm.MethodName)),
  (Jvm.Cond.code ({ cls := "WaitedCommits", name := "conflicts", desc := "(LWaitedCommits$Transaction;LWaitedCommits$Transaction;II)Z" } : Jvm.MethodName) prog_1_method_34_code (4 : Nat) (Option.some Jvm.ClassFile.FieldType.boolean)),
  (Jvm.Cond.methodLink "WaitedCommits" (187 : Nat) ({ cls := "WaitedCommits", name := "canPushAside", desc := "(LWaitedCommits$Transaction;LWaitedCommits$Transaction;)Z" } : Jvm.MethodName)),
  (Jvm.Cond.static ({ cls := "WaitedCommits", name := "canPushAside", desc := "(LWaitedCommits$Transaction;LWaitedCommits$Transaction;)Z" } : Jvm.MethodName)),
  (Jvm.Cond.code ({ cls := "WaitedCommits", name := "canPushAside", desc := "(LWaitedCommits$Transaction;LWaitedCommits$Transaction;)Z" } : Jvm.MethodName) prog_1_method_35_code (2 : Nat) (Option.some Jvm.ClassFile.FieldType.boolean)),
  (Jvm.Cond.methodLinkNest "WaitedCommits" (131 : Nat) ({ cls := "WaitedCommits$Transaction", name := "giveUp", desc := "()V" } : Jvm.MethodName) "WaitedCommits"),
  (Jvm.Cond.instanceMethod ({ cls := "WaitedCommits$Transaction", name := "giveUp", desc := "()V" } : Jvm.MethodName)),
  (Jvm.Cond.code ({ cls := "WaitedCommits$Transaction", name := "giveUp", desc := "()V" } : Jvm.MethodName) prog_5_method_5_code (2 : Nat) (Option.none : Option Jvm.ClassFile.FieldType)),
  (Jvm.Cond.methodLink "WaitedCommits$Transaction" (47 : Nat) ({ cls := "WaitedCommits$Transaction", name := "unlockAt", desc := "(I)V" } : Jvm.MethodName)),
  (Jvm.Cond.instanceMethod ({ cls := "WaitedCommits$Transaction", name := "unlockAt", desc := "(I)V" } : Jvm.MethodName)),
  (Jvm.Cond.code ({ cls := "WaitedCommits$Transaction", name := "unlockAt", desc := "(I)V" } : Jvm.MethodName) prog_5_method_4_code (3 : Nat) (Option.none : Option Jvm.ClassFile.FieldType)),
  (Jvm.Cond.constantLong "WaitedCommits" (109 : Nat) (1099511627776 : Int64)),
  (Jvm.Cond.methodLink "WaitedCommitsLaw" (46 : Nat) ({ cls := "WaitedCommits", name := "write", desc := "(III)Z" } : Jvm.MethodName)),
  (Jvm.Cond.instanceMethod ({ cls := "WaitedCommits", name := "write", desc := "(III)Z" } : Jvm.MethodName)),
  (Jvm.Cond.selects "WaitedCommits" ({ cls := "WaitedCommits", name := "write", desc := "(III)Z" } : Jvm.MethodName) ({ cls := "WaitedCommits", name := "write", desc := "(III)Z" } : Jvm.MethodName)),
  (Jvm.Cond.code ({ cls := "WaitedCommits", name := "write", desc := "(III)Z" } : Jvm.MethodName) prog_1_method_7_code (4 : Nat) (Option.some Jvm.ClassFile.FieldType.boolean)),
  (Jvm.Cond.methodLink "WaitedCommitsLaw" (50 : Nat) ({ cls := "WaitedCommits", name := "commit", desc := "(I)Z" } : Jvm.MethodName)),
  (Jvm.Cond.instanceMethod ({ cls := "WaitedCommits", name := "commit", desc := "(I)Z" } : Jvm.MethodName)),
  (Jvm.Cond.selects "WaitedCommits" ({ cls := "WaitedCommits", name := "commit", desc := "(I)Z" } : Jvm.MethodName) ({ cls := "WaitedCommits", name := "commit", desc := "(I)Z" } : Jvm.MethodName)),
  (Jvm.Cond.code ({ cls := "WaitedCommits", name := "commit", desc := "(I)Z" } : Jvm.MethodName) prog_1_method_8_code (3 : Nat) (Option.some Jvm.ClassFile.FieldType.boolean)),
  (Jvm.Cond.methodLink "WaitedCommits" (128 : Nat) ({ cls := "WaitedCommits", name := "prepare", desc := "(I)V" } : Jvm.MethodName)),
  (Jvm.Cond.instanceMethod ({ cls := "WaitedCommits", name := "prepare", desc := "(I)V" } : Jvm.MethodName)),
  (Jvm.Cond.code ({ cls := "WaitedCommits", name := "prepare", desc := "(I)V" } : Jvm.MethodName) prog_1_method_36_code (3 : Nat) (Option.none : Option Jvm.ClassFile.FieldType)),
  (Jvm.Cond.methodLink "WaitedCommits" (180 : Nat) ({ cls := "WaitedCommits", name := "latest", desc := "(I)I" } : Jvm.MethodName)),
  (Jvm.Cond.instanceMethod ({ cls := "WaitedCommits", name := "latest", desc := "(I)I" } : Jvm.MethodName)),
  (Jvm.Cond.code ({ cls := "WaitedCommits", name := "latest", desc := "(I)I" } : Jvm.MethodName) prog_1_method_29_code (2 : Nat) (Option.some Jvm.ClassFile.FieldType.int)),
  (Jvm.Cond.methodLink "WaitedCommits" (194 : Nat) ({ cls := "WaitedCommits", name := "sendToOthers", desc := "(II)I" } : Jvm.MethodName)),
  (Jvm.Cond.instanceMethod ({ cls := "WaitedCommits", name := "sendToOthers", desc := "(II)I" } : Jvm.MethodName)),
  (Jvm.Cond.code ({ cls := "WaitedCommits", name := "sendToOthers", desc := "(II)I" } : Jvm.MethodName) prog_1_method_37_code (6 : Nat) (Option.some Jvm.ClassFile.FieldType.int)),
  (Jvm.Cond.methodLinkNest "WaitedCommits" (204 : Nat) ({ cls := "WaitedCommits$Transaction", name := "holdsAt", desc := "(I)Z" } : Jvm.MethodName) "WaitedCommits"),
  (Jvm.Cond.methodLink "WaitedCommits" (207 : Nat) ({ cls := "WaitedCommits", name := "send", desc := "(III)V" } : Jvm.MethodName)),
  (Jvm.Cond.instanceMethod ({ cls := "WaitedCommits", name := "send", desc := "(III)V" } : Jvm.MethodName)),
  (Jvm.Cond.code ({ cls := "WaitedCommits", name := "send", desc := "(III)V" } : Jvm.MethodName) prog_1_method_38_code (6 : Nat) (Option.none : Option Jvm.ClassFile.FieldType)),
  (Jvm.Cond.methodLink "WaitedCommits" (200 : Nat) ({ cls := "WaitedCommits", name := "chooseStamp", desc := "(LWaitedCommits$Transaction;)V" } : Jvm.MethodName)),
  (Jvm.Cond.instanceMethod ({ cls := "WaitedCommits", name := "chooseStamp", desc := "(LWaitedCommits$Transaction;)V" } : Jvm.MethodName)),
  (Jvm.Cond.code ({ cls := "WaitedCommits", name := "chooseStamp", desc := "(LWaitedCommits$Transaction;)V" } : Jvm.MethodName) prog_1_method_45_code (3 : Nat) (Option.none : Option Jvm.ClassFile.FieldType)),
  (Jvm.Cond.methodLinkNest "WaitedCommits" (254 : Nat) ({ cls := "WaitedCommits$Transaction", name := "greatestMark", desc := "()I" } : Jvm.MethodName) "WaitedCommits"),
  (Jvm.Cond.instanceMethod ({ cls := "WaitedCommits$Transaction", name := "greatestMark", desc := "()I" } : Jvm.MethodName)),
  (Jvm.Cond.code ({ cls := "WaitedCommits$Transaction", name := "greatestMark", desc := "()I" } : Jvm.MethodName) prog_5_method_6_code (3 : Nat) (Option.some Jvm.ClassFile.FieldType.int)),
  (Jvm.Cond.methodLink "WaitedCommits$Transaction" (51 : Nat) ({ cls := "java/lang/Math", name := "max", desc := "(II)I" } : Jvm.MethodName)),
  (Jvm.Cond.methodLink "WaitedCommitsLaw" (54 : Nat) ({ cls := "WaitedCommits", name := "abort", desc := "(I)Z" } : Jvm.MethodName)),
  (Jvm.Cond.instanceMethod ({ cls := "WaitedCommits", name := "abort", desc := "(I)Z" } : Jvm.MethodName)),
  (Jvm.Cond.selects "WaitedCommits" ({ cls := "WaitedCommits", name := "abort", desc := "(I)Z" } : Jvm.MethodName) ({ cls := "WaitedCommits", name := "abort", desc := "(I)Z" } : Jvm.MethodName)),
  (Jvm.Cond.code ({ cls := "WaitedCommits", name := "abort", desc := "(I)Z" } : Jvm.MethodName) prog_1_method_9_code (2 : Nat) (Option.some Jvm.ClassFile.FieldType.boolean)),
  (Jvm.Cond.methodLink "WaitedCommitsLaw" (58 : Nat) ({ cls := "WaitedCommits", name := "readAt", desc := "(II)J" } : Jvm.MethodName)),
  (Jvm.Cond.instanceMethod ({ cls := "WaitedCommits", name := "readAt", desc := "(II)J" } : Jvm.MethodName)),
  (Jvm.Cond.selects "WaitedCommits" ({ cls := "WaitedCommits", name := "readAt", desc := "(II)J" } : Jvm.MethodName) ({ cls := "WaitedCommits", name := "readAt", desc := "(II)J" } : Jvm.MethodName)),
  (Jvm.Cond.code ({ cls := "WaitedCommits", name := "readAt", desc := "(II)J" } : Jvm.MethodName) prog_1_method_10_code (3 : Nat) (Option.some Jvm.ClassFile.FieldType.long)),
  (Jvm.Cond.methodLink "WaitedCommits" (138 : Nat) ({ cls := "WaitedCommits", name := "greatestReadyTime", desc := "(I)I" } : Jvm.MethodName)),
  (Jvm.Cond.instanceMethod ({ cls := "WaitedCommits", name := "greatestReadyTime", desc := "(I)I" } : Jvm.MethodName)),
  (Jvm.Cond.code ({ cls := "WaitedCommits", name := "greatestReadyTime", desc := "(I)I" } : Jvm.MethodName) prog_1_method_32_code (2 : Nat) (Option.some Jvm.ClassFile.FieldType.int)),
  (Jvm.Cond.methodLink "WaitedCommits" (165 : Nat) ({ cls := "WaitedCommits", name := "leastMark", desc := "(I)I" } : Jvm.MethodName)),
  (Jvm.Cond.instanceMethod ({ cls := "WaitedCommits", name := "leastMark", desc := "(I)I" } : Jvm.MethodName)),
  (Jvm.Cond.code ({ cls := "WaitedCommits", name := "leastMark", desc := "(I)I" } : Jvm.MethodName) prog_1_method_31_code (4 : Nat) (Option.some Jvm.ClassFile.FieldType.int)),
  (Jvm.Cond.constant "WaitedCommits" (179 : Nat) (2147483647 : Int32)),
  (Jvm.Cond.methodLinkNest "WaitedCommits" (141 : Nat) ({ cls := "WaitedCommits$Site", name := "raiseBound", desc := "(I)V" } : Jvm.MethodName) "WaitedCommits"),
  (Jvm.Cond.instanceMethod ({ cls := "WaitedCommits$Site", name := "raiseBound", desc := "(I)V" } : Jvm.MethodName)),
  (Jvm.Cond.code ({ cls := "WaitedCommits$Site", name := "raiseBound", desc := "(I)V" } : Jvm.MethodName) prog_4_method_2_code (2 : Nat) (Option.none : Option Jvm.ClassFile.FieldType)),
  (Jvm.Cond.methodLink "WaitedCommits$Site" (26 : Nat) ({ cls := "java/lang/Math", name := "max", desc := "(II)I" } : Jvm.MethodName)),
  (Jvm.Cond.methodLinkNest "WaitedCommits" (144 : Nat) ({ cls := "WaitedCommits$Key", name := "valueAt", desc := "(I)J" } : Jvm.MethodName) "WaitedCommits"),
  (Jvm.Cond.instanceMethod ({ cls := "WaitedCommits$Key", name := "valueAt", desc := "(I)J" } : Jvm.MethodName)),
  (Jvm.Cond.code ({ cls := "WaitedCommits$Key", name := "valueAt", desc := "(I)J" } : Jvm.MethodName) prog_2_method_3_code (3 : Nat) (Option.some Jvm.ClassFile.FieldType.long)),
  (Jvm.Cond.constantLong "WaitedCommits$Key" (28 : Nat) (2199023255552 : Int64)),
  (Jvm.Cond.methodLink "WaitedCommitsLaw" (62 : Nat) ({ cls := "WaitedCommits", name := "step", desc := "(I)I" } : Jvm.MethodName)),
  (Jvm.Cond.instanceMethod ({ cls := "WaitedCommits", name := "step", desc := "(I)I" } : Jvm.MethodName)),
  (Jvm.Cond.selects "WaitedCommits" ({ cls := "WaitedCommits", name := "step", desc := "(I)I" } : Jvm.MethodName) ({ cls := "WaitedCommits", name := "step", desc := "(I)I" } : Jvm.MethodName)),
  (Jvm.Cond.code ({ cls := "WaitedCommits", name := "step", desc := "(I)I" } : Jvm.MethodName) prog_1_method_11_code (4 : Nat) (Option.some Jvm.ClassFile.FieldType.int)),
  (Jvm.Cond.methodLink "WaitedCommits" (148 : Nat) ({ cls := "WaitedCommits", name := "deliverMessages", desc := "()V" } : Jvm.MethodName)),
  (Jvm.Cond.instanceMethod ({ cls := "WaitedCommits", name := "deliverMessages", desc := "()V" } : Jvm.MethodName)),
  (Jvm.Cond.code ({ cls := "WaitedCommits", name := "deliverMessages", desc := "()V" } : Jvm.MethodName) prog_1_method_39_code (3 : Nat) (Option.none : Option Jvm.ClassFile.FieldType)),
  (Jvm.Cond.methodLink "WaitedCommits" (223 : Nat) ({ cls := "WaitedCommits", name := "firstDue", desc := "()LWaitedCommits$Message;" } : Jvm.MethodName)),
  (Jvm.Cond.instanceMethod ({ cls := "WaitedCommits", name := "firstDue", desc := "()LWaitedCommits$Message;" } : Jvm.MethodName)),
  (Jvm.Cond.code ({ cls := "WaitedCommits", name := "firstDue", desc := "()LWaitedCommits$Message;" } : Jvm.MethodName) prog_1_method_40_code (3 : Nat) (Option.some (Jvm.ClassFile.FieldType.object "WaitedCommits$Message"))),
  (Jvm.Cond.methodLink "WaitedCommits" (231 : Nat) ({ cls := "WaitedCommits", name := "isDue", desc := "(LWaitedCommits$Message;)Z" } : Jvm.MethodName)),
  (Jvm.Cond.instanceMethod ({ cls := "WaitedCommits", name := "isDue", desc := "(LWaitedCommits$Message;)Z" } : Jvm.MethodName)),
  (Jvm.Cond.code ({ cls := "WaitedCommits", name := "isDue", desc := "(LWaitedCommits$Message;)Z" } : Jvm.MethodName) prog_1_method_41_code (2 : Nat) (Option.some Jvm.ClassFile.FieldType.boolean)),
  (Jvm.Cond.methodLinkNest "WaitedCommits" (235 : Nat) ({ cls := "WaitedCommits$Message", name := "comesBefore", desc := "(LWaitedCommits$Message;)Z" } : Jvm.MethodName) "WaitedCommits"),
  (Jvm.Cond.instanceMethod ({ cls := "WaitedCommits$Message", name := "comesBefore", desc := "(LWaitedCommits$Message;)Z" } : Jvm.MethodName)),
  (Jvm.Cond.code ({ cls := "WaitedCommits$Message", name := "comesBefore", desc := "(LWaitedCommits$Message;)Z" } : Jvm.MethodName) prog_3_method_2_code (2 : Nat) (Option.some Jvm.ClassFile.FieldType.boolean)),
  (Jvm.Cond.methodLink "WaitedCommits" (227 : Nat) ({ cls := "WaitedCommits", name := "dealWith", desc := "(LWaitedCommits$Message;)V" } : Jvm.MethodName)),
  (Jvm.Cond.instanceMethod ({ cls := "WaitedCommits", name := "dealWith", desc := "(LWaitedCommits$Message;)V" } : Jvm.MethodName)),
  (Jvm.Cond.code ({ cls := "WaitedCommits", name := "dealWith", desc := "(LWaitedCommits$Message;)V" } : Jvm.MethodName) prog_1_method_42_code (3 : Nat) (Option.none : Option Jvm.ClassFile.FieldType)),
  (Jvm.Cond.methodLink "WaitedCommits" (244 : Nat) ({ cls := "WaitedCommits", name := "takePrepare", desc := "(II)V" } : Jvm.MethodName)),
  (Jvm.Cond.instanceMethod ({ cls := "WaitedCommits", name := "takePrepare", desc := "(II)V" } : Jvm.MethodName)),
  (Jvm.Cond.code ({ cls := "WaitedCommits", name := "takePrepare", desc := "(II)V" } : Jvm.MethodName) prog_1_method_43_code (4 : Nat) (Option.none : Option Jvm.ClassFile.FieldType)),
  (Jvm.Cond.methodLink "WaitedCommits" (247 : Nat) ({ cls := "WaitedCommits", name := "takePrepared", desc := "(LWaitedCommits$Transaction;)V" } : Jvm.MethodName)),
  (Jvm.Cond.instanceMethod ({ cls := "WaitedCommits", name := "takePrepared", desc := "(LWaitedCommits$Transaction;)V" } : Jvm.MethodName)),
  (Jvm.Cond.code ({ cls := "WaitedCommits", name := "takePrepared", desc := "(LWaitedCommits$Transaction;)V" } : Jvm.MethodName) prog_1_method_44_code (2 : Nat) (Option.none : Option Jvm.ClassFile.FieldType)),
  (Jvm.Cond.methodLink "WaitedCommits" (250 : Nat) ({ cls := "WaitedCommits", name := "finishAt", desc := "(LWaitedCommits$Transaction;I)V" } : Jvm.MethodName)),
  (Jvm.Cond.instanceMethod ({ cls := "WaitedCommits", name := "finishAt", desc := "(LWaitedCommits$Transaction;I)V" } : Jvm.MethodName)),
  (Jvm.Cond.code ({ cls := "WaitedCommits", name := "finishAt", desc := "(LWaitedCommits$Transaction;I)V" } : Jvm.MethodName) prog_1_method_49_code (4 : Nat) (Option.none : Option Jvm.ClassFile.FieldType)),
  (Jvm.Cond.methodLinkNest "WaitedCommits" (266 : Nat) ({ cls := "WaitedCommits$Key", name := "add", desc := "(II)V" } : Jvm.MethodName) "WaitedCommits"),
  (Jvm.Cond.instanceMethod ({ cls := "WaitedCommits$Key", name := "add", desc := "(II)V" } : Jvm.MethodName)),
  (Jvm.Cond.code ({ cls := "WaitedCommits$Key", name := "add", desc := "(II)V" } : Jvm.MethodName) prog_2_method_2_code (4 : Nat) (Option.none : Option Jvm.ClassFile.FieldType)),
  (Jvm.Cond.methodLink "WaitedCommits$Key" (22 : Nat) ({ cls := "java/lang/Math", name := "min", desc := "(II)I" } : Jvm.MethodName)),
  (Jvm.Cond.methodLinkNest "WaitedCommits" (269 : Nat) ({ cls := "WaitedCommits$Transaction", name := "unlockAt", desc := "(I)V" } : Jvm.MethodName) "WaitedCommits"),
  (Jvm.Cond.methodLink "WaitedCommits" (151 : Nat) ({ cls := "WaitedCommits", name := "endWaiting", desc := "()I" } : Jvm.MethodName)),
  (Jvm.Cond.instanceMethod ({ cls := "WaitedCommits", name := "endWaiting", desc := "()I" } : Jvm.MethodName)),
  (Jvm.Cond.code ({ cls := "WaitedCommits", name := "endWaiting", desc := "()I" } : Jvm.MethodName) prog_1_method_46_code (3 : Nat) (Option.some Jvm.ClassFile.FieldType.int)),
  (Jvm.Cond.methodLink "WaitedCommits" (257 : Nat) ({ cls := "WaitedCommits", name := "mayEnd", desc := "(LWaitedCommits$Transaction;)Z" } : Jvm.MethodName)),
  (Jvm.Cond.instanceMethod ({ cls := "WaitedCommits", name := "mayEnd", desc := "(LWaitedCommits$Transaction;)Z" } : Jvm.MethodName)),
  (Jvm.Cond.code ({ cls := "WaitedCommits", name := "mayEnd", desc := "(LWaitedCommits$Transaction;)Z" } : Jvm.MethodName) prog_1_method_47_code (2 : Nat) (Option.some Jvm.ClassFile.FieldType.boolean)),
  (Jvm.Cond.methodLink "WaitedCommits" (263 : Nat) ({ cls := "WaitedCommits", name := "earliest", desc := "(I)I" } : Jvm.MethodName)),
  (Jvm.Cond.instanceMethod ({ cls := "WaitedCommits", name := "earliest", desc := "(I)I" } : Jvm.MethodName)),
  (Jvm.Cond.code ({ cls := "WaitedCommits", name := "earliest", desc := "(I)I" } : Jvm.MethodName) prog_1_method_30_code (2 : Nat) (Option.some Jvm.ClassFile.FieldType.int)),
  (Jvm.Cond.methodLink "WaitedCommits" (260 : Nat) ({ cls := "WaitedCommits", name := "endOne", desc := "(I)V" } : Jvm.MethodName)),
  (Jvm.Cond.instanceMethod ({ cls := "WaitedCommits", name := "endOne", desc := "(I)V" } : Jvm.MethodName)),
  (Jvm.Cond.code ({ cls := "WaitedCommits", name := "endOne", desc := "(I)V" } : Jvm.MethodName) prog_1_method_48_code (3 : Nat) (Option.none : Option Jvm.ClassFile.FieldType)),
  (Jvm.Cond.methodLink "WaitedCommitsLaw" (67 : Nat) ({ cls := "WaitedCommits", name := "now", desc := "()I" } : Jvm.MethodName)),
  (Jvm.Cond.instanceMethod ({ cls := "WaitedCommits", name := "now", desc := "()I" } : Jvm.MethodName)),
  (Jvm.Cond.selects "WaitedCommits" ({ cls := "WaitedCommits", name := "now", desc := "()I" } : Jvm.MethodName) ({ cls := "WaitedCommits", name := "now", desc := "()I" } : Jvm.MethodName)),
  (Jvm.Cond.code ({ cls := "WaitedCommits", name := "now", desc := "()I" } : Jvm.MethodName) prog_1_method_12_code (1 : Nat) (Option.some Jvm.ClassFile.FieldType.int)),
  (Jvm.Cond.methodLink "WaitedCommitsLaw" (72 : Nat) ({ cls := "WaitedCommits", name := "state", desc := "(I)I" } : Jvm.MethodName)),
  (Jvm.Cond.instanceMethod ({ cls := "WaitedCommits", name := "state", desc := "(I)I" } : Jvm.MethodName)),
  (Jvm.Cond.selects "WaitedCommits" ({ cls := "WaitedCommits", name := "state", desc := "(I)I" } : Jvm.MethodName) ({ cls := "WaitedCommits", name := "state", desc := "(I)I" } : Jvm.MethodName)),
  (Jvm.Cond.code ({ cls := "WaitedCommits", name := "state", desc := "(I)I" } : Jvm.MethodName) prog_1_method_13_code (2 : Nat) (Option.some Jvm.ClassFile.FieldType.int)),
  (Jvm.Cond.methodLink "WaitedCommitsLaw" (76 : Nat) ({ cls := "WaitedCommits", name := "stamp", desc := "(I)I" } : Jvm.MethodName)),
  (Jvm.Cond.instanceMethod ({ cls := "WaitedCommits", name := "stamp", desc := "(I)I" } : Jvm.MethodName)),
  (Jvm.Cond.selects "WaitedCommits" ({ cls := "WaitedCommits", name := "stamp", desc := "(I)I" } : Jvm.MethodName) ({ cls := "WaitedCommits", name := "stamp", desc := "(I)I" } : Jvm.MethodName)),
  (Jvm.Cond.code ({ cls := "WaitedCommits", name := "stamp", desc := "(I)I" } : Jvm.MethodName) prog_1_method_14_code (3 : Nat) (Option.some Jvm.ClassFile.FieldType.int)),
  (Jvm.Cond.methodLink "WaitedCommits" (154 : Nat) ({ cls := "WaitedCommits", name := "state", desc := "(I)I" } : Jvm.MethodName)),
  (Jvm.Cond.methodLink "WaitedCommitsLaw" (80 : Nat) ({ cls := "WaitedCommits", name := "end", desc := "(I)I" } : Jvm.MethodName)),
  (Jvm.Cond.instanceMethod ({ cls := "WaitedCommits", name := "end", desc := "(I)I" } : Jvm.MethodName)),
  (Jvm.Cond.selects "WaitedCommits" ({ cls := "WaitedCommits", name := "end", desc := "(I)I" } : Jvm.MethodName) ({ cls := "WaitedCommits", name := "end", desc := "(I)I" } : Jvm.MethodName)),
  (Jvm.Cond.code ({ cls := "WaitedCommits", name := "end", desc := "(I)I" } : Jvm.MethodName) prog_1_method_15_code (2 : Nat) (Option.some Jvm.ClassFile.FieldType.int)),
  (Jvm.Cond.methodLink "WaitedCommitsLaw" (84 : Nat) ({ cls := "WaitedCommits", name := "marks", desc := "(I)I" } : Jvm.MethodName)),
  (Jvm.Cond.instanceMethod ({ cls := "WaitedCommits", name := "marks", desc := "(I)I" } : Jvm.MethodName)),
  (Jvm.Cond.selects "WaitedCommits" ({ cls := "WaitedCommits", name := "marks", desc := "(I)I" } : Jvm.MethodName) ({ cls := "WaitedCommits", name := "marks", desc := "(I)I" } : Jvm.MethodName)),
  (Jvm.Cond.code ({ cls := "WaitedCommits", name := "marks", desc := "(I)I" } : Jvm.MethodName) prog_1_method_16_code (4 : Nat) (Option.some Jvm.ClassFile.FieldType.int)),
  (Jvm.Cond.methodLink "WaitedCommitsLaw" (88 : Nat) ({ cls := "WaitedCommits", name := "safe", desc := "(I)I" } : Jvm.MethodName)),
  (Jvm.Cond.instanceMethod ({ cls := "WaitedCommits", name := "safe", desc := "(I)I" } : Jvm.MethodName)),
  (Jvm.Cond.selects "WaitedCommits" ({ cls := "WaitedCommits", name := "safe", desc := "(I)I" } : Jvm.MethodName) ({ cls := "WaitedCommits", name := "safe", desc := "(I)I" } : Jvm.MethodName)),
  (Jvm.Cond.code ({ cls := "WaitedCommits", name := "safe", desc := "(I)I" } : Jvm.MethodName) prog_1_method_17_code (2 : Nat) (Option.some Jvm.ClassFile.FieldType.int)),
  (Jvm.Cond.methodLink "WaitedCommitsLaw" (92 : Nat) ({ cls := "WaitedCommits", name := "bound", desc := "(I)I" } : Jvm.MethodName)),
  (Jvm.Cond.instanceMethod ({ cls := "WaitedCommits", name := "bound", desc := "(I)I" } : Jvm.MethodName)),
  (Jvm.Cond.selects "WaitedCommits" ({ cls := "WaitedCommits", name := "bound", desc := "(I)I" } : Jvm.MethodName) ({ cls := "WaitedCommits", name := "bound", desc := "(I)I" } : Jvm.MethodName)),
  (Jvm.Cond.code ({ cls := "WaitedCommits", name := "bound", desc := "(I)I" } : Jvm.MethodName) prog_1_method_18_code (2 : Nat) (Option.some Jvm.ClassFile.FieldType.int)),
  (Jvm.Cond.methodLink "WaitedCommitsLaw" (96 : Nat) ({ cls := "WaitedCommits", name := "holders", desc := "(I)I" } : Jvm.MethodName)),
  (Jvm.Cond.instanceMethod ({ cls := "WaitedCommits", name := "holders", desc := "(I)I" } : Jvm.MethodName)),
  (Jvm.Cond.selects "WaitedCommits" ({ cls := "WaitedCommits", name := "holders", desc := "(I)I" } : Jvm.MethodName) ({ cls := "WaitedCommits", name := "holders", desc := "(I)I" } : Jvm.MethodName)),
  (Jvm.Cond.code ({ cls := "WaitedCommits", name := "holders", desc := "(I)I" } : Jvm.MethodName) prog_1_method_19_code (4 : Nat) (Option.some Jvm.ClassFile.FieldType.int)),
  (Jvm.Cond.methodLink "WaitedCommitsLaw" (100 : Nat) ({ cls := "WaitedCommits", name := "version", desc := "(II)I" } : Jvm.MethodName)),
  (Jvm.Cond.instanceMethod ({ cls := "WaitedCommits", name := "version", desc := "(II)I" } : Jvm.MethodName)),
  (Jvm.Cond.selects "WaitedCommits" ({ cls := "WaitedCommits", name := "version", desc := "(II)I" } : Jvm.MethodName) ({ cls := "WaitedCommits", name := "version", desc := "(II)I" } : Jvm.MethodName)),
  (Jvm.Cond.code ({ cls := "WaitedCommits", name := "version", desc := "(II)I" } : Jvm.MethodName) prog_1_method_20_code (3 : Nat) (Option.some Jvm.ClassFile.FieldType.int)),
  (Jvm.Cond.methodLink "WaitedCommitsLaw" (105 : Nat) ({ cls := "WaitedCommits", name := "messages", desc := "()I" } : Jvm.MethodName)),
  (Jvm.Cond.instanceMethod ({ cls := "WaitedCommits", name := "messages", desc := "()I" } : Jvm.MethodName)),
  (Jvm.Cond.selects "WaitedCommits" ({ cls := "WaitedCommits", name := "messages", desc := "()I" } : Jvm.MethodName) ({ cls := "WaitedCommits", name := "messages", desc := "()I" } : Jvm.MethodName)),
  (Jvm.Cond.code ({ cls := "WaitedCommits", name := "messages", desc := "()I" } : Jvm.MethodName) prog_1_method_21_code (1 : Nat) (Option.some Jvm.ClassFile.FieldType.int)),
  (Jvm.Cond.methodLink "WaitedCommitsLaw" (9 : Nat) ({ cls := "WaitedCommitsLaw", name := "cell", desc := "([II)I" } : Jvm.MethodName)),
  (Jvm.Cond.static ({ cls := "WaitedCommitsLaw", name := "cell", desc := "([II)I" } : Jvm.MethodName)),
  (Jvm.Cond.code ({ cls := "WaitedCommitsLaw", name := "cell", desc := "([II)I" } : Jvm.MethodName) method_2_code (2 : Nat) (Option.some Jvm.ClassFile.FieldType.int)),
  (Jvm.Cond.classLink "WaitedCommitsLaw" (18 : Nat) "WaitedCommitsModel"),
  (Jvm.Cond.instantiable "WaitedCommitsModel" (25 : Nat)),
  (Jvm.Cond.methodLink "WaitedCommitsLaw" (20 : Nat) ({ cls := "WaitedCommitsModel", name := "<init>", desc := "(I)V" } : Jvm.MethodName)),
  (Jvm.Cond.instanceMethod ({ cls := "WaitedCommitsModel", name := "<init>", desc := "(I)V" } : Jvm.MethodName)),
  (Jvm.Cond.code ({ cls := "WaitedCommitsModel", name := "<init>", desc := "(I)V" } : Jvm.MethodName) prog_7_method_1_code (3 : Nat) (Option.none : Option Jvm.ClassFile.FieldType)),
  (Jvm.Cond.methodLink "WaitedCommitsModel" (1 : Nat) ({ cls := "java/lang/Object", name := "<init>", desc := "()V" } : Jvm.MethodName)),
  (Jvm.Cond.fieldLink "WaitedCommitsModel" (71 : Nat) "WaitedCommitsModel" "e" "I"),
  (Jvm.Cond.fieldLink "WaitedCommitsModel" (114 : Nat) "WaitedCommitsModel" "now" "I"),
  (Jvm.Cond.fieldLink "WaitedCommitsModel" (7 : Nat) "WaitedCommitsModel" "early" "[I"),
  (Jvm.Cond.fieldLink "WaitedCommitsModel" (13 : Nat) "WaitedCommitsModel" "late" "[I"),
  (Jvm.Cond.fieldLink "WaitedCommitsModel" (16 : Nat) "WaitedCommitsModel" "slow" "[I"),
  (Jvm.Cond.fieldLink "WaitedCommitsModel" (19 : Nat) "WaitedCommitsModel" "down" "[Z"),
  (Jvm.Cond.fieldLink "WaitedCommitsModel" (23 : Nat) "WaitedCommitsModel" "bound" "[I"),
  (Jvm.Cond.fieldLink "WaitedCommitsModel" (138 : Nat) "WaitedCommitsModel" "versions" "I"),
  (Jvm.Cond.fieldLink "WaitedCommitsModel" (26 : Nat) "WaitedCommitsModel" "versionKey" "[I"),
  (Jvm.Cond.fieldLink "WaitedCommitsModel" (29 : Nat) "WaitedCommitsModel" "versionStamp" "[I"),
  (Jvm.Cond.fieldLink "WaitedCommitsModel" (32 : Nat) "WaitedCommitsModel" "versionValue" "[I"),
  (Jvm.Cond.fieldLink "WaitedCommitsModel" (90 : Nat) "WaitedCommitsModel" "begun" "I"),
  (Jvm.Cond.fieldLink "WaitedCommitsModel" (35 : Nat) "WaitedCommitsModel" "state" "[I"),
  (Jvm.Cond.fieldLink "WaitedCommitsModel" (38 : Nat) "WaitedCommitsModel" "age" "[I"),
  (Jvm.Cond.fieldLink "WaitedCommitsModel" (41 : Nat) "WaitedCommitsModel" "stamp" "[I"),
  (Jvm.Cond.fieldLink "WaitedCommitsModel" (44 : Nat) "WaitedCommitsModel" "floor" "[I"),
  (Jvm.Cond.fieldLink "WaitedCommitsModel" (47 : Nat) "WaitedCommitsModel" "ended" "[I"),
  (Jvm.Cond.fieldLink "WaitedCommitsModel" (50 : Nat) "WaitedCommitsModel" "lock" "[I"),
  (Jvm.Cond.fieldLink "WaitedCommitsModel" (53 : Nat) "WaitedCommitsModel" "wrote" "[Z"),
  (Jvm.Cond.fieldLink "WaitedCommitsModel" (56 : Nat) "WaitedCommitsModel" "value" "[I"),
  (Jvm.Cond.fieldLink "WaitedCommitsModel" (59 : Nat) "WaitedCommitsModel" "marked" "[Z"),
  (Jvm.Cond.fieldLink "WaitedCommitsModel" (62 : Nat) "WaitedCommitsModel" "mark" "[I"),
  (Jvm.Cond.fieldLink "WaitedCommitsModel" (117 : Nat) "WaitedCommitsModel" "sent" "I"),
  (Jvm.Cond.fieldLink "WaitedCommitsModel" (65 : Nat) "WaitedCommitsModel" "arrives" "[I"),
  (Jvm.Cond.fieldLink "WaitedCommitsModel" (68 : Nat) "WaitedCommitsModel" "number" "[I"),
  (Jvm.Cond.lays "WaitedCommitsModel" "WaitedCommitsModel" "e" "I"),
  (Jvm.Cond.lays "WaitedCommitsModel" "WaitedCommitsModel" "now" "I"),
  (Jvm.Cond.lays "WaitedCommitsModel" "WaitedCommitsModel" "early" "[I"),
  (Jvm.Cond.lays "WaitedCommitsModel" "WaitedCommitsModel" "late" "[I"),
  (Jvm.Cond.lays "WaitedCommitsModel" "WaitedCommitsModel" "slow" "[I"),
  (Jvm.Cond.lays "WaitedCommitsModel" "WaitedCommitsModel" "down" "[Z"),
  (Jvm.Cond.lays "WaitedCommitsModel" "WaitedCommitsModel" "bound" "[I"),
  (Jvm.Cond.lays "WaitedCommitsModel" "WaitedCommitsModel" "versions" "I"),
  (Jvm.Cond.lays "WaitedCommitsModel" "WaitedCommitsModel" "versionKey" "[I"),
  (Jvm.Cond.lays "WaitedCommitsModel" "WaitedCommitsModel" "versionStamp" "[I"),
  (Jvm.Cond.lays "WaitedCommitsModel" "WaitedCommitsModel" "versionValue" "[I"),
  (Jvm.Cond.lays "WaitedCommitsModel" "WaitedCommitsModel" "begun" "I"),
  (Jvm.Cond.lays "WaitedCommitsModel" "WaitedCommitsModel" "state" "[I"),
  (Jvm.Cond.lays "WaitedCommitsModel" "WaitedCommitsModel" "age" "[I"),
  (Jvm.Cond.lays "WaitedCommitsModel" "WaitedCommitsModel" "stamp" "[I"),
  (Jvm.Cond.lays "WaitedCommitsModel" "WaitedCommitsModel" "floor" "[I"),
  (Jvm.Cond.lays "WaitedCommitsModel" "WaitedCommitsModel" "ended" "[I"),
  (Jvm.Cond.lays "WaitedCommitsModel" "WaitedCommitsModel" "lock" "[I"),
  (Jvm.Cond.lays "WaitedCommitsModel" "WaitedCommitsModel" "wrote" "[Z"),
  (Jvm.Cond.lays "WaitedCommitsModel" "WaitedCommitsModel" "value" "[I"),
  (Jvm.Cond.lays "WaitedCommitsModel" "WaitedCommitsModel" "marked" "[Z"),
  (Jvm.Cond.lays "WaitedCommitsModel" "WaitedCommitsModel" "mark" "[I"),
  (Jvm.Cond.lays "WaitedCommitsModel" "WaitedCommitsModel" "sent" "I"),
  (Jvm.Cond.lays "WaitedCommitsModel" "WaitedCommitsModel" "arrives" "[I"),
  (Jvm.Cond.lays "WaitedCommitsModel" "WaitedCommitsModel" "number" "[I"),
  (Jvm.Cond.methodLink "WaitedCommitsLaw" (25 : Nat) ({ cls := "WaitedCommitsModel", name := "clock", desc := "(III)Z" } : Jvm.MethodName)),
  (Jvm.Cond.instanceMethod ({ cls := "WaitedCommitsModel", name := "clock", desc := "(III)Z" } : Jvm.MethodName)),
  (Jvm.Cond.selects "WaitedCommitsModel" ({ cls := "WaitedCommitsModel", name := "clock", desc := "(III)Z" } : Jvm.MethodName) ({ cls := "WaitedCommitsModel", name := "clock", desc := "(III)Z" } : Jvm.MethodName)),
  (Jvm.Cond.code ({ cls := "WaitedCommitsModel", name := "clock", desc := "(III)Z" } : Jvm.MethodName) prog_7_method_3_code (4 : Nat) (Option.some Jvm.ClassFile.FieldType.boolean)),
  (Jvm.Cond.methodLink "WaitedCommitsModel" (75 : Nat) ({ cls := "WaitedCommitsModel", name := "in", desc := "(II)Z" } : Jvm.MethodName)),
  (Jvm.Cond.static ({ cls := "WaitedCommitsModel", name := "in", desc := "(II)Z" } : Jvm.MethodName)),
  (Jvm.Cond.code ({ cls := "WaitedCommitsModel", name := "in", desc := "(II)Z" } : Jvm.MethodName) prog_7_method_2_code (2 : Nat) (Option.some Jvm.ClassFile.FieldType.boolean)),
  (Jvm.Cond.methodLink "WaitedCommitsLaw" (30 : Nat) ({ cls := "WaitedCommitsModel", name := "delay", desc := "(II)Z" } : Jvm.MethodName)),
  (Jvm.Cond.instanceMethod ({ cls := "WaitedCommitsModel", name := "delay", desc := "(II)Z" } : Jvm.MethodName)),
  (Jvm.Cond.selects "WaitedCommitsModel" ({ cls := "WaitedCommitsModel", name := "delay", desc := "(II)Z" } : Jvm.MethodName) ({ cls := "WaitedCommitsModel", name := "delay", desc := "(II)Z" } : Jvm.MethodName)),
  (Jvm.Cond.code ({ cls := "WaitedCommitsModel", name := "delay", desc := "(II)Z" } : Jvm.MethodName) prog_7_method_4_code (3 : Nat) (Option.some Jvm.ClassFile.FieldType.boolean)),
  (Jvm.Cond.methodLink "WaitedCommitsLaw" (35 : Nat) ({ cls := "WaitedCommitsModel", name := "power", desc := "(IZ)Z" } : Jvm.MethodName)),
  (Jvm.Cond.instanceMethod ({ cls := "WaitedCommitsModel", name := "power", desc := "(IZ)Z" } : Jvm.MethodName)),
  (Jvm.Cond.selects "WaitedCommitsModel" ({ cls := "WaitedCommitsModel", name := "power", desc := "(IZ)Z" } : Jvm.MethodName) ({ cls := "WaitedCommitsModel", name := "power", desc := "(IZ)Z" } : Jvm.MethodName)),
  (Jvm.Cond.code ({ cls := "WaitedCommitsModel", name := "power", desc := "(IZ)Z" } : Jvm.MethodName) prog_7_method_5_code (3 : Nat) (Option.some Jvm.ClassFile.FieldType.boolean)),
  (Jvm.Cond.methodLink "WaitedCommitsLaw" (40 : Nat) ({ cls := "WaitedCommitsModel", name := "begin", desc := "(I)Z" } : Jvm.MethodName)),
  (Jvm.Cond.instanceMethod ({ cls := "WaitedCommitsModel", name := "begin", desc := "(I)Z" } : Jvm.MethodName)),
  (Jvm.Cond.selects "WaitedCommitsModel" ({ cls := "WaitedCommitsModel", name := "begin", desc := "(I)Z" } : Jvm.MethodName) ({ cls := "WaitedCommitsModel", name := "begin", desc := "(I)Z" } : Jvm.MethodName)),
  (Jvm.Cond.code ({ cls := "WaitedCommitsModel", name := "begin", desc := "(I)Z" } : Jvm.MethodName) prog_7_method_11_code (2 : Nat) (Option.some Jvm.ClassFile.FieldType.boolean)),
  (Jvm.Cond.methodLink "WaitedCommitsModel" (82 : Nat) ({ cls := "WaitedCommitsModel", name := "least", desc := "(I)I" } : Jvm.MethodName)),
  (Jvm.Cond.instanceMethod ({ cls := "WaitedCommitsModel", name := "least", desc := "(I)I" } : Jvm.MethodName)),
  (Jvm.Cond.code ({ cls := "WaitedCommitsModel", name := "least", desc := "(I)I" } : Jvm.MethodName) prog_7_method_9_code (2 : Nat) (Option.some Jvm.ClassFile.FieldType.int)),
  (Jvm.Cond.methodLink "WaitedCommitsModel" (79 : Nat) ({ cls := "WaitedCommitsModel", name := "takesPart", desc := "(II)Z" } : Jvm.MethodName)),
  (Jvm.Cond.instanceMethod ({ cls := "WaitedCommitsModel", name := "takesPart", desc := "(II)Z" } : Jvm.MethodName)),
  (Jvm.Cond.code ({ cls := "WaitedCommitsModel", name := "takesPart", desc := "(II)Z" } : Jvm.MethodName) prog_7_method_8_code (3 : Nat) (Option.some Jvm.ClassFile.FieldType.boolean)),
  (Jvm.Cond.methodLink "WaitedCommitsModel" (86 : Nat) ({ cls := "WaitedCommitsModel", name := "forget", desc := "(I)V" } : Jvm.MethodName)),
  (Jvm.Cond.instanceMethod ({ cls := "WaitedCommitsModel", name := "forget", desc := "(I)V" } : Jvm.MethodName)),
  (Jvm.Cond.code ({ cls := "WaitedCommitsModel", name := "forget", desc := "(I)V" } : Jvm.MethodName) prog_7_method_10_code (3 : Nat) (Option.none : Option Jvm.ClassFile.FieldType)),
  (Jvm.Cond.methodLink "WaitedCommitsLaw" (45 : Nat) ({ cls := "WaitedCommitsModel", name := "read", desc := "(II)J" } : Jvm.MethodName)),
  (Jvm.Cond.instanceMethod ({ cls := "WaitedCommitsModel", name := "read", desc := "(II)J" } : Jvm.MethodName)),
  (Jvm.Cond.selects "WaitedCommitsModel" ({ cls := "WaitedCommitsModel", name := "read", desc := "(II)J" } : Jvm.MethodName) ({ cls := "WaitedCommitsModel", name := "read", desc := "(II)J" } : Jvm.MethodName)),
  (Jvm.Cond.code ({ cls := "WaitedCommitsModel", name := "read", desc := "(II)J" } : Jvm.MethodName) prog_7_method_15_code (4 : Nat) (Option.some Jvm.ClassFile.FieldType.long)),
  (Jvm.Cond.methodLink "WaitedCommitsModel" (100 : Nat) ({ cls := "WaitedCommitsModel", name := "active", desc := "(I)Z" } : Jvm.MethodName)),
  (Jvm.Cond.instanceMethod ({ cls := "WaitedCommitsModel", name := "active", desc := "(I)Z" } : Jvm.MethodName)),
  (Jvm.Cond.code ({ cls := "WaitedCommitsModel", name := "active", desc := "(I)Z" } : Jvm.MethodName) prog_7_method_7_code (2 : Nat) (Option.some Jvm.ClassFile.FieldType.boolean)),
  (Jvm.Cond.methodLink "WaitedCommitsModel" (104 : Nat) ({ cls := "WaitedCommitsModel", name := "take", desc := "(III)Z" } : Jvm.MethodName)),
  (Jvm.Cond.instanceMethod ({ cls := "WaitedCommitsModel", name := "take", desc := "(III)Z" } : Jvm.MethodName)),
  (Jvm.Cond.code ({ cls := "WaitedCommitsModel", name := "take", desc := "(III)Z" } : Jvm.MethodName) prog_7_method_13_code (5 : Nat) (Option.some Jvm.ClassFile.FieldType.boolean)),
  (Jvm.Cond.methodLink "WaitedCommitsModel" (93 : Nat) ({ cls := "WaitedCommitsModel", name := "conflicts", desc := "(IIII)Z" } : Jvm.MethodName)),
  (Jvm.Cond.instanceMethod ({ cls := "WaitedCommitsModel", name := "conflicts", desc := "(IIII)Z" } : Jvm.MethodName)),
  (Jvm.Cond.code ({ cls := "WaitedCommitsModel", name := "conflicts", desc := "(IIII)Z" } : Jvm.MethodName) prog_7_method_12_code (5 : Nat) (Option.some Jvm.ClassFile.FieldType.boolean)),
  (Jvm.Cond.methodLink "WaitedCommitsModel" (97 : Nat) ({ cls := "WaitedCommitsModel", name := "drop", desc := "(I)V" } : Jvm.MethodName)),
  (Jvm.Cond.instanceMethod ({ cls := "WaitedCommitsModel", name := "drop", desc := "(I)V" } : Jvm.MethodName)),
  (Jvm.Cond.code ({ cls := "WaitedCommitsModel", name := "drop", desc := "(I)V" } : Jvm.MethodName) prog_7_method_14_code (2 : Nat) (Option.none : Option Jvm.ClassFile.FieldType)),
  (Jvm.Cond.constantLong "WaitedCommitsModel" (108 : Nat) (1099511627776 : Int64)),
  (Jvm.Cond.methodLink "WaitedCommitsModel" (110 : Nat) ({ cls := "WaitedCommitsModel", name := "find", desc := "(II)I" } : Jvm.MethodName)),
  (Jvm.Cond.instanceMethod ({ cls := "WaitedCommitsModel", name := "find", desc := "(II)I" } : Jvm.MethodName)),
  (Jvm.Cond.code ({ cls := "WaitedCommitsModel", name := "find", desc := "(II)I" } : Jvm.MethodName) prog_7_method_27_code (5 : Nat) (Option.some Jvm.ClassFile.FieldType.int)),
  (Jvm.Cond.methodLink "WaitedCommitsLaw" (49 : Nat) ({ cls := "WaitedCommitsModel", name := "write", desc := "(III)Z" } : Jvm.MethodName)),
  (Jvm.Cond.instanceMethod ({ cls := "WaitedCommitsModel", name := "write", desc := "(III)Z" } : Jvm.MethodName)),
  (Jvm.Cond.selects "WaitedCommitsModel" ({ cls := "WaitedCommitsModel", name := "write", desc := "(III)Z" } : Jvm.MethodName) ({ cls := "WaitedCommitsModel", name := "write", desc := "(III)Z" } : Jvm.MethodName)),
  (Jvm.Cond.code ({ cls := "WaitedCommitsModel", name := "write", desc := "(III)Z" } : Jvm.MethodName) prog_7_method_16_code (4 : Nat) (Option.some Jvm.ClassFile.FieldType.boolean)),
  (Jvm.Cond.methodLink "WaitedCommitsLaw" (57 : Nat) ({ cls := "WaitedCommitsModel", name := "abort", desc := "(I)Z" } : Jvm.MethodName)),
  (Jvm.Cond.instanceMethod ({ cls := "WaitedCommitsModel", name := "abort", desc := "(I)Z" } : Jvm.MethodName)),
  (Jvm.Cond.selects "WaitedCommitsModel" ({ cls := "WaitedCommitsModel", name := "abort", desc := "(I)Z" } : Jvm.MethodName) ({ cls := "WaitedCommitsModel", name := "abort", desc := "(I)Z" } : Jvm.MethodName)),
  (Jvm.Cond.code ({ cls := "WaitedCommitsModel", name := "abort", desc := "(I)Z" } : Jvm.MethodName) prog_7_method_17_code (2 : Nat) (Option.some Jvm.ClassFile.FieldType.boolean)),
  (Jvm.Cond.methodLink "WaitedCommitsLaw" (53 : Nat) ({ cls := "WaitedCommitsModel", name := "commit", desc := "(I)Z" } : Jvm.MethodName)),
  (Jvm.Cond.instanceMethod ({ cls := "WaitedCommitsModel", name := "commit", desc := "(I)Z" } : Jvm.MethodName)),
  (Jvm.Cond.selects "WaitedCommitsModel" ({ cls := "WaitedCommitsModel", name := "commit", desc := "(I)Z" } : Jvm.MethodName) ({ cls := "WaitedCommitsModel", name := "commit", desc := "(I)Z" } : Jvm.MethodName)),
  (Jvm.Cond.code ({ cls := "WaitedCommitsModel", name := "commit", desc := "(I)Z" } : Jvm.MethodName) prog_7_method_20_code (4 : Nat) (Option.some Jvm.ClassFile.FieldType.boolean)),
  (Jvm.Cond.methodLink "WaitedCommitsModel" (124 : Nat) ({ cls := "WaitedCommitsModel", name := "sendAll", desc := "(III)V" } : Jvm.MethodName)),
  (Jvm.Cond.instanceMethod ({ cls := "WaitedCommitsModel", name := "sendAll", desc := "(III)V" } : Jvm.MethodName)),
  (Jvm.Cond.code ({ cls := "WaitedCommitsModel", name := "sendAll", desc := "(III)V" } : Jvm.MethodName) prog_7_method_19_code (5 : Nat) (Option.none : Option Jvm.ClassFile.FieldType)),
  (Jvm.Cond.methodLink "WaitedCommitsModel" (120 : Nat) ({ cls := "WaitedCommitsModel", name := "send", desc := "(IIII)V" } : Jvm.MethodName)),
  (Jvm.Cond.instanceMethod ({ cls := "WaitedCommitsModel", name := "send", desc := "(IIII)V" } : Jvm.MethodName)),
  (Jvm.Cond.code ({ cls := "WaitedCommitsModel", name := "send", desc := "(IIII)V" } : Jvm.MethodName) prog_7_method_18_code (6 : Nat) (Option.none : Option Jvm.ClassFile.FieldType)),
  (Jvm.Cond.methodLink "WaitedCommitsModel" (128 : Nat) ({ cls := "WaitedCommitsModel", name := "stampIfAll", desc := "(I)V" } : Jvm.MethodName)),
  (Jvm.Cond.instanceMethod ({ cls := "WaitedCommitsModel", name := "stampIfAll", desc := "(I)V" } : Jvm.MethodName)),
  (Jvm.Cond.code ({ cls := "WaitedCommitsModel", name := "stampIfAll", desc := "(I)V" } : Jvm.MethodName) prog_7_method_21_code (6 : Nat) (Option.none : Option Jvm.ClassFile.FieldType)),
  (Jvm.Cond.methodLink "WaitedCommitsModel" (131 : Nat) ({ cls := "WaitedCommitsModel", name := "put", desc := "(III)V" } : Jvm.MethodName)),
  (Jvm.Cond.instanceMethod ({ cls := "WaitedCommitsModel", name := "put", desc := "(III)V" } : Jvm.MethodName)),
  (Jvm.Cond.code ({ cls := "WaitedCommitsModel", name := "put", desc := "(III)V" } : Jvm.MethodName) prog_7_method_22_code (4 : Nat) (Option.none : Option Jvm.ClassFile.FieldType)),
  (Jvm.Cond.methodLink "WaitedCommitsLaw" (66 : Nat) ({ cls := "WaitedCommitsModel", name := "step", desc := "(I)I" } : Jvm.MethodName)),
  (Jvm.Cond.instanceMethod ({ cls := "WaitedCommitsModel", name := "step", desc := "(I)I" } : Jvm.MethodName)),
  (Jvm.Cond.selects "WaitedCommitsModel" ({ cls := "WaitedCommitsModel", name := "step", desc := "(I)I" } : Jvm.MethodName) ({ cls := "WaitedCommitsModel", name := "step", desc := "(I)I" } : Jvm.MethodName)),
  (Jvm.Cond.code ({ cls := "WaitedCommitsModel", name := "step", desc := "(I)I" } : Jvm.MethodName) prog_7_method_26_code (7 : Nat) (Option.some Jvm.ClassFile.FieldType.int)),
  (Jvm.Cond.methodLink "WaitedCommitsModel" (144 : Nat) ({ cls := "WaitedCommitsModel", name := "next", desc := "()I" } : Jvm.MethodName)),
  (Jvm.Cond.instanceMethod ({ cls := "WaitedCommitsModel", name := "next", desc := "()I" } : Jvm.MethodName)),
  (Jvm.Cond.code ({ cls := "WaitedCommitsModel", name := "next", desc := "()I" } : Jvm.MethodName) prog_7_method_25_code (6 : Nat) (Option.some Jvm.ClassFile.FieldType.int)),
  (Jvm.Cond.methodLink "WaitedCommitsModel" (148 : Nat) ({ cls := "WaitedCommitsModel", name := "deal", desc := "(I)V" } : Jvm.MethodName)),
  (Jvm.Cond.instanceMethod ({ cls := "WaitedCommitsModel", name := "deal", desc := "(I)V" } : Jvm.MethodName)),
  (Jvm.Cond.code ({ cls := "WaitedCommitsModel", name := "deal", desc := "(I)V" } : Jvm.MethodName) prog_7_method_23_code (7 : Nat) (Option.none : Option Jvm.ClassFile.FieldType)),
  (Jvm.Cond.methodLink "WaitedCommitsModel" (134 : Nat) ({ cls := "WaitedCommitsModel", name := "finish", desc := "(II)V" } : Jvm.MethodName)),
  (Jvm.Cond.instanceMethod ({ cls := "WaitedCommitsModel", name := "finish", desc := "(II)V" } : Jvm.MethodName)),
  (Jvm.Cond.code ({ cls := "WaitedCommitsModel", name := "finish", desc := "(II)V" } : Jvm.MethodName) prog_7_method_24_code (4 : Nat) (Option.none : Option Jvm.ClassFile.FieldType)),
  (Jvm.Cond.methodLink "WaitedCommitsModel" (141 : Nat) ({ cls := "WaitedCommitsModel", name := "raise", desc := "(II)V" } : Jvm.MethodName)),
  (Jvm.Cond.instanceMethod ({ cls := "WaitedCommitsModel", name := "raise", desc := "(II)V" } : Jvm.MethodName)),
  (Jvm.Cond.code ({ cls := "WaitedCommitsModel", name := "raise", desc := "(II)V" } : Jvm.MethodName) prog_7_method_6_code (3 : Nat) (Option.none : Option Jvm.ClassFile.FieldType)),
  (Jvm.Cond.methodLink "WaitedCommitsLaw" (104 : Nat) ({ cls := "WaitedCommitsModel", name := "version", desc := "(II)I" } : Jvm.MethodName)),
  (Jvm.Cond.instanceMethod ({ cls := "WaitedCommitsModel", name := "version", desc := "(II)I" } : Jvm.MethodName)),
  (Jvm.Cond.selects "WaitedCommitsModel" ({ cls := "WaitedCommitsModel", name := "version", desc := "(II)I" } : Jvm.MethodName) ({ cls := "WaitedCommitsModel", name := "version", desc := "(II)I" } : Jvm.MethodName)),
  (Jvm.Cond.code ({ cls := "WaitedCommitsModel", name := "version", desc := "(II)I" } : Jvm.MethodName) prog_7_method_28_code (4 : Nat) (Option.some Jvm.ClassFile.FieldType.int)),
  (Jvm.Cond.methodLink "WaitedCommitsLaw" (61 : Nat) ({ cls := "WaitedCommitsModel", name := "readAt", desc := "(II)J" } : Jvm.MethodName)),
  (Jvm.Cond.instanceMethod ({ cls := "WaitedCommitsModel", name := "readAt", desc := "(II)J" } : Jvm.MethodName)),
  (Jvm.Cond.selects "WaitedCommitsModel" ({ cls := "WaitedCommitsModel", name := "readAt", desc := "(II)J" } : Jvm.MethodName) ({ cls := "WaitedCommitsModel", name := "readAt", desc := "(II)J" } : Jvm.MethodName)),
  (Jvm.Cond.code ({ cls := "WaitedCommitsModel", name := "readAt", desc := "(II)J" } : Jvm.MethodName) prog_7_method_29_code (5 : Nat) (Option.some Jvm.ClassFile.FieldType.long)),
  (Jvm.Cond.methodLink "WaitedCommitsModel" (151 : Nat) ({ cls := "WaitedCommitsModel", name := "safe", desc := "(I)I" } : Jvm.MethodName)),
  (Jvm.Cond.instanceMethod ({ cls := "WaitedCommitsModel", name := "safe", desc := "(I)I" } : Jvm.MethodName)),
  (Jvm.Cond.selects "WaitedCommitsModel" ({ cls := "WaitedCommitsModel", name := "safe", desc := "(I)I" } : Jvm.MethodName) ({ cls := "WaitedCommitsModel", name := "safe", desc := "(I)I" } : Jvm.MethodName)),
  (Jvm.Cond.code ({ cls := "WaitedCommitsModel", name := "safe", desc := "(I)I" } : Jvm.MethodName) prog_7_method_35_code (4 : Nat) (Option.some Jvm.ClassFile.FieldType.int)),
  (Jvm.Cond.constantLong "WaitedCommitsModel" (154 : Nat) (2199023255552 : Int64)),
  (Jvm.Cond.methodLink "WaitedCommitsLaw" (71 : Nat) ({ cls := "WaitedCommitsModel", name := "now", desc := "()I" } : Jvm.MethodName)),
  (Jvm.Cond.instanceMethod ({ cls := "WaitedCommitsModel", name := "now", desc := "()I" } : Jvm.MethodName)),
  (Jvm.Cond.selects "WaitedCommitsModel" ({ cls := "WaitedCommitsModel", name := "now", desc := "()I" } : Jvm.MethodName) ({ cls := "WaitedCommitsModel", name := "now", desc := "()I" } : Jvm.MethodName)),
  (Jvm.Cond.code ({ cls := "WaitedCommitsModel", name := "now", desc := "()I" } : Jvm.MethodName) prog_7_method_30_code (1 : Nat) (Option.some Jvm.ClassFile.FieldType.int)),
  (Jvm.Cond.methodLink "WaitedCommitsLaw" (75 : Nat) ({ cls := "WaitedCommitsModel", name := "state", desc := "(I)I" } : Jvm.MethodName)),
  (Jvm.Cond.instanceMethod ({ cls := "WaitedCommitsModel", name := "state", desc := "(I)I" } : Jvm.MethodName)),
  (Jvm.Cond.selects "WaitedCommitsModel" ({ cls := "WaitedCommitsModel", name := "state", desc := "(I)I" } : Jvm.MethodName) ({ cls := "WaitedCommitsModel", name := "state", desc := "(I)I" } : Jvm.MethodName)),
  (Jvm.Cond.code ({ cls := "WaitedCommitsModel", name := "state", desc := "(I)I" } : Jvm.MethodName) prog_7_method_31_code (2 : Nat) (Option.some Jvm.ClassFile.FieldType.int)),
  (Jvm.Cond.methodLink "WaitedCommitsLaw" (79 : Nat) ({ cls := "WaitedCommitsModel", name := "stamp", desc := "(I)I" } : Jvm.MethodName)),
  (Jvm.Cond.instanceMethod ({ cls := "WaitedCommitsModel", name := "stamp", desc := "(I)I" } : Jvm.MethodName)),
  (Jvm.Cond.selects "WaitedCommitsModel" ({ cls := "WaitedCommitsModel", name := "stamp", desc := "(I)I" } : Jvm.MethodName) ({ cls := "WaitedCommitsModel", name := "stamp", desc := "(I)I" } : Jvm.MethodName)),
  (Jvm.Cond.code ({ cls := "WaitedCommitsModel", name := "stamp", desc := "(I)I" } : Jvm.MethodName) prog_7_method_32_code (2 : Nat) (Option.some Jvm.ClassFile.FieldType.int)),
  (Jvm.Cond.methodLink "WaitedCommitsLaw" (83 : Nat) ({ cls := "WaitedCommitsModel", name := "end", desc := "(I)I" } : Jvm.MethodName)),
  (Jvm.Cond.instanceMethod ({ cls := "WaitedCommitsModel", name := "end", desc := "(I)I" } : Jvm.MethodName)),
  (Jvm.Cond.selects "WaitedCommitsModel" ({ cls := "WaitedCommitsModel", name := "end", desc := "(I)I" } : Jvm.MethodName) ({ cls := "WaitedCommitsModel", name := "end", desc := "(I)I" } : Jvm.MethodName)),
  (Jvm.Cond.code ({ cls := "WaitedCommitsModel", name := "end", desc := "(I)I" } : Jvm.MethodName) prog_7_method_33_code (2 : Nat) (Option.some Jvm.ClassFile.FieldType.int)),
  (Jvm.Cond.methodLink "WaitedCommitsLaw" (87 : Nat) ({ cls := "WaitedCommitsModel", name := "marks", desc := "(I)I" } : Jvm.MethodName)),
  (Jvm.Cond.instanceMethod ({ cls := "WaitedCommitsModel", name := "marks", desc := "(I)I" } : Jvm.MethodName)),
  (Jvm.Cond.selects "WaitedCommitsModel" ({ cls := "WaitedCommitsModel", name := "marks", desc := "(I)I" } : Jvm.MethodName) ({ cls := "WaitedCommitsModel", name := "marks", desc := "(I)I" } : Jvm.MethodName)),
  (Jvm.Cond.code ({ cls := "WaitedCommitsModel", name := "marks", desc := "(I)I" } : Jvm.MethodName) prog_7_method_34_code (5 : Nat) (Option.some Jvm.ClassFile.FieldType.int)),
  (Jvm.Cond.methodLink "WaitedCommitsLaw" (91 : Nat) ({ cls := "WaitedCommitsModel", name := "safe", desc := "(I)I" } : Jvm.MethodName)),
  (Jvm.Cond.methodLink "WaitedCommitsLaw" (95 : Nat) ({ cls := "WaitedCommitsModel", name := "bound", desc := "(I)I" } : Jvm.MethodName)),
  (Jvm.Cond.instanceMethod ({ cls := "WaitedCommitsModel", name := "bound", desc := "(I)I" } : Jvm.MethodName)),
  (Jvm.Cond.selects "WaitedCommitsModel" ({ cls := "WaitedCommitsModel", name := "bound", desc := "(I)I" } : Jvm.MethodName) ({ cls := "WaitedCommitsModel", name := "bound", desc := "(I)I" } : Jvm.MethodName)),
  (Jvm.Cond.code ({ cls := "WaitedCommitsModel", name := "bound", desc := "(I)I" } : Jvm.MethodName) prog_7_method_36_code (2 : Nat) (Option.some Jvm.ClassFile.FieldType.int)),
  (Jvm.Cond.methodLink "WaitedCommitsLaw" (99 : Nat) ({ cls := "WaitedCommitsModel", name := "holders", desc := "(I)I" } : Jvm.MethodName)),
  (Jvm.Cond.instanceMethod ({ cls := "WaitedCommitsModel", name := "holders", desc := "(I)I" } : Jvm.MethodName)),
  (Jvm.Cond.selects "WaitedCommitsModel" ({ cls := "WaitedCommitsModel", name := "holders", desc := "(I)I" } : Jvm.MethodName) ({ cls := "WaitedCommitsModel", name := "holders", desc := "(I)I" } : Jvm.MethodName)),
  (Jvm.Cond.code ({ cls := "WaitedCommitsModel", name := "holders", desc := "(I)I" } : Jvm.MethodName) prog_7_method_37_code (4 : Nat) (Option.some Jvm.ClassFile.FieldType.int)),
  (Jvm.Cond.methodLink "WaitedCommitsLaw" (108 : Nat) ({ cls := "WaitedCommitsModel", name := "messages", desc := "()I" } : Jvm.MethodName)),
  (Jvm.Cond.instanceMethod ({ cls := "WaitedCommitsModel", name := "messages", desc := "()I" } : Jvm.MethodName)),
  (Jvm.Cond.selects "WaitedCommitsModel" ({ cls := "WaitedCommitsModel", name := "messages", desc := "()I" } : Jvm.MethodName) ({ cls := "WaitedCommitsModel", name := "messages", desc := "()I" } : Jvm.MethodName)),
  (Jvm.Cond.code ({ cls := "WaitedCommitsModel", name := "messages", desc := "()I" } : Jvm.MethodName) prog_7_method_38_code (3 : Nat) (Option.some Jvm.ClassFile.FieldType.int)),
  (Jvm.Cond.selects "WaitedCommits" ({ cls := "WaitedCommits", name := "isError", desc := "(I)Z" } : Jvm.MethodName) ({ cls := "WaitedCommits", name := "isError", desc := "(I)Z" } : Jvm.MethodName)),
  (Jvm.Cond.selects "WaitedCommits$Transaction" ({ cls := "WaitedCommits$Transaction", name := "leastParticipant", desc := "()I" } : Jvm.MethodName) ({ cls := "WaitedCommits$Transaction", name := "leastParticipant", desc := "()I" } : Jvm.MethodName)),
  (Jvm.Cond.selects "WaitedCommits$Transaction" ({ cls := "WaitedCommits$Transaction", name := "holdsAt", desc := "(I)Z" } : Jvm.MethodName) ({ cls := "WaitedCommits$Transaction", name := "holdsAt", desc := "(I)Z" } : Jvm.MethodName)),
  (Jvm.Cond.selects "WaitedCommits" ({ cls := "WaitedCommits", name := "isActive", desc := "(I)Z" } : Jvm.MethodName) ({ cls := "WaitedCommits", name := "isActive", desc := "(I)Z" } : Jvm.MethodName)),
  (Jvm.Cond.selects "WaitedCommits" ({ cls := "WaitedCommits", name := "lock", desc := "(LWaitedCommits$Transaction;II)Z" } : Jvm.MethodName) ({ cls := "WaitedCommits", name := "lock", desc := "(LWaitedCommits$Transaction;II)Z" } : Jvm.MethodName)),
  (Jvm.Cond.selects "WaitedCommits$Transaction" ({ cls := "WaitedCommits$Transaction", name := "giveUp", desc := "()V" } : Jvm.MethodName) ({ cls := "WaitedCommits$Transaction", name := "giveUp", desc := "()V" } : Jvm.MethodName)),
  (Jvm.Cond.selects "WaitedCommits$Transaction" ({ cls := "WaitedCommits$Transaction", name := "unlockAt", desc := "(I)V" } : Jvm.MethodName) ({ cls := "WaitedCommits$Transaction", name := "unlockAt", desc := "(I)V" } : Jvm.MethodName)),
  (Jvm.Cond.selects "WaitedCommits" ({ cls := "WaitedCommits", name := "prepare", desc := "(I)V" } : Jvm.MethodName) ({ cls := "WaitedCommits", name := "prepare", desc := "(I)V" } : Jvm.MethodName)),
  (Jvm.Cond.selects "WaitedCommits" ({ cls := "WaitedCommits", name := "latest", desc := "(I)I" } : Jvm.MethodName) ({ cls := "WaitedCommits", name := "latest", desc := "(I)I" } : Jvm.MethodName)),
  (Jvm.Cond.selects "WaitedCommits" ({ cls := "WaitedCommits", name := "sendToOthers", desc := "(II)I" } : Jvm.MethodName) ({ cls := "WaitedCommits", name := "sendToOthers", desc := "(II)I" } : Jvm.MethodName)),
  (Jvm.Cond.selects "WaitedCommits" ({ cls := "WaitedCommits", name := "send", desc := "(III)V" } : Jvm.MethodName) ({ cls := "WaitedCommits", name := "send", desc := "(III)V" } : Jvm.MethodName)),
  (Jvm.Cond.selects "WaitedCommits" ({ cls := "WaitedCommits", name := "chooseStamp", desc := "(LWaitedCommits$Transaction;)V" } : Jvm.MethodName) ({ cls := "WaitedCommits", name := "chooseStamp", desc := "(LWaitedCommits$Transaction;)V" } : Jvm.MethodName)),
  (Jvm.Cond.selects "WaitedCommits$Transaction" ({ cls := "WaitedCommits$Transaction", name := "greatestMark", desc := "()I" } : Jvm.MethodName) ({ cls := "WaitedCommits$Transaction", name := "greatestMark", desc := "()I" } : Jvm.MethodName)),
  (Jvm.Cond.selects "WaitedCommits" ({ cls := "WaitedCommits", name := "greatestReadyTime", desc := "(I)I" } : Jvm.MethodName) ({ cls := "WaitedCommits", name := "greatestReadyTime", desc := "(I)I" } : Jvm.MethodName)),
  (Jvm.Cond.selects "WaitedCommits" ({ cls := "WaitedCommits", name := "leastMark", desc := "(I)I" } : Jvm.MethodName) ({ cls := "WaitedCommits", name := "leastMark", desc := "(I)I" } : Jvm.MethodName)),
  (Jvm.Cond.selects "WaitedCommits$Site" ({ cls := "WaitedCommits$Site", name := "raiseBound", desc := "(I)V" } : Jvm.MethodName) ({ cls := "WaitedCommits$Site", name := "raiseBound", desc := "(I)V" } : Jvm.MethodName)),
  (Jvm.Cond.selects "WaitedCommits$Key" ({ cls := "WaitedCommits$Key", name := "valueAt", desc := "(I)J" } : Jvm.MethodName) ({ cls := "WaitedCommits$Key", name := "valueAt", desc := "(I)J" } : Jvm.MethodName)),
  (Jvm.Cond.selects "WaitedCommits" ({ cls := "WaitedCommits", name := "deliverMessages", desc := "()V" } : Jvm.MethodName) ({ cls := "WaitedCommits", name := "deliverMessages", desc := "()V" } : Jvm.MethodName)),
  (Jvm.Cond.selects "WaitedCommits" ({ cls := "WaitedCommits", name := "firstDue", desc := "()LWaitedCommits$Message;" } : Jvm.MethodName) ({ cls := "WaitedCommits", name := "firstDue", desc := "()LWaitedCommits$Message;" } : Jvm.MethodName)),
  (Jvm.Cond.selects "WaitedCommits" ({ cls := "WaitedCommits", name := "isDue", desc := "(LWaitedCommits$Message;)Z" } : Jvm.MethodName) ({ cls := "WaitedCommits", name := "isDue", desc := "(LWaitedCommits$Message;)Z" } : Jvm.MethodName)),
  (Jvm.Cond.selects "WaitedCommits$Message" ({ cls := "WaitedCommits$Message", name := "comesBefore", desc := "(LWaitedCommits$Message;)Z" } : Jvm.MethodName) ({ cls := "WaitedCommits$Message", name := "comesBefore", desc := "(LWaitedCommits$Message;)Z" } : Jvm.MethodName)),
  (Jvm.Cond.selects "WaitedCommits" ({ cls := "WaitedCommits", name := "dealWith", desc := "(LWaitedCommits$Message;)V" } : Jvm.MethodName) ({ cls := "WaitedCommits", name := "dealWith", desc := "(LWaitedCommits$Message;)V" } : Jvm.MethodName)),
  (Jvm.Cond.selects "WaitedCommits" ({ cls := "WaitedCommits", name := "takePrepare", desc := "(II)V" } : Jvm.MethodName) ({ cls := "WaitedCommits", name := "takePrepare", desc := "(II)V" } : Jvm.MethodName)),
  (Jvm.Cond.selects "WaitedCommits" ({ cls := "WaitedCommits", name := "takePrepared", desc := "(LWaitedCommits$Transaction;)V" } : Jvm.MethodName) ({ cls := "WaitedCommits", name := "takePrepared", desc := "(LWaitedCommits$Transaction;)V" } : Jvm.MethodName)),
  (Jvm.Cond.selects "WaitedCommits" ({ cls := "WaitedCommits", name := "finishAt", desc := "(LWaitedCommits$Transaction;I)V" } : Jvm.MethodName) ({ cls := "WaitedCommits", name := "finishAt", desc := "(LWaitedCommits$Transaction;I)V" } : Jvm.MethodName)),
  (Jvm.Cond.selects "WaitedCommits$Key" ({ cls := "WaitedCommits$Key", name := "add", desc := "(II)V" } : Jvm.MethodName) ({ cls := "WaitedCommits$Key", name := "add", desc := "(II)V" } : Jvm.MethodName)),
  (Jvm.Cond.selects "WaitedCommits" ({ cls := "WaitedCommits", name := "endWaiting", desc := "()I" } : Jvm.MethodName) ({ cls := "WaitedCommits", name := "endWaiting", desc := "()I" } : Jvm.MethodName)),
  (Jvm.Cond.selects "WaitedCommits" ({ cls := "WaitedCommits", name := "mayEnd", desc := "(LWaitedCommits$Transaction;)Z" } : Jvm.MethodName) ({ cls := "WaitedCommits", name := "mayEnd", desc := "(LWaitedCommits$Transaction;)Z" } : Jvm.MethodName)),
  (Jvm.Cond.selects "WaitedCommits" ({ cls := "WaitedCommits", name := "earliest", desc := "(I)I" } : Jvm.MethodName) ({ cls := "WaitedCommits", name := "earliest", desc := "(I)I" } : Jvm.MethodName)),
  (Jvm.Cond.selects "WaitedCommits" ({ cls := "WaitedCommits", name := "endOne", desc := "(I)V" } : Jvm.MethodName) ({ cls := "WaitedCommits", name := "endOne", desc := "(I)V" } : Jvm.MethodName)),
  (Jvm.Cond.selects "WaitedCommitsModel" ({ cls := "WaitedCommitsModel", name := "least", desc := "(I)I" } : Jvm.MethodName) ({ cls := "WaitedCommitsModel", name := "least", desc := "(I)I" } : Jvm.MethodName)),
  (Jvm.Cond.selects "WaitedCommitsModel" ({ cls := "WaitedCommitsModel", name := "takesPart", desc := "(II)Z" } : Jvm.MethodName) ({ cls := "WaitedCommitsModel", name := "takesPart", desc := "(II)Z" } : Jvm.MethodName)),
  (Jvm.Cond.selects "WaitedCommitsModel" ({ cls := "WaitedCommitsModel", name := "forget", desc := "(I)V" } : Jvm.MethodName) ({ cls := "WaitedCommitsModel", name := "forget", desc := "(I)V" } : Jvm.MethodName)),
  (Jvm.Cond.selects "WaitedCommitsModel" ({ cls := "WaitedCommitsModel", name := "active", desc := "(I)Z" } : Jvm.MethodName) ({ cls := "WaitedCommitsModel", name := "active", desc := "(I)Z" } : Jvm.MethodName)),
  (Jvm.Cond.selects "WaitedCommitsModel" ({ cls := "WaitedCommitsModel", name := "take", desc := "(III)Z" } : Jvm.MethodName) ({ cls := "WaitedCommitsModel", name := "take", desc := "(III)Z" } : Jvm.MethodName)),
  (Jvm.Cond.selects "WaitedCommitsModel" ({ cls := "WaitedCommitsModel", name := "conflicts", desc := "(IIII)Z" } : Jvm.MethodName) ({ cls := "WaitedCommitsModel", name := "conflicts", desc := "(IIII)Z" } : Jvm.MethodName)),
  (Jvm.Cond.selects "WaitedCommitsModel" ({ cls := "WaitedCommitsModel", name := "drop", desc := "(I)V" } : Jvm.MethodName) ({ cls := "WaitedCommitsModel", name := "drop", desc := "(I)V" } : Jvm.MethodName)),
  (Jvm.Cond.selects "WaitedCommitsModel" ({ cls := "WaitedCommitsModel", name := "find", desc := "(II)I" } : Jvm.MethodName) ({ cls := "WaitedCommitsModel", name := "find", desc := "(II)I" } : Jvm.MethodName)),
  (Jvm.Cond.selects "WaitedCommitsModel" ({ cls := "WaitedCommitsModel", name := "sendAll", desc := "(III)V" } : Jvm.MethodName) ({ cls := "WaitedCommitsModel", name := "sendAll", desc := "(III)V" } : Jvm.MethodName)),
  (Jvm.Cond.selects "WaitedCommitsModel" ({ cls := "WaitedCommitsModel", name := "send", desc := "(IIII)V" } : Jvm.MethodName) ({ cls := "WaitedCommitsModel", name := "send", desc := "(IIII)V" } : Jvm.MethodName)),
  (Jvm.Cond.selects "WaitedCommitsModel" ({ cls := "WaitedCommitsModel", name := "stampIfAll", desc := "(I)V" } : Jvm.MethodName) ({ cls := "WaitedCommitsModel", name := "stampIfAll", desc := "(I)V" } : Jvm.MethodName)),
  (Jvm.Cond.selects "WaitedCommitsModel" ({ cls := "WaitedCommitsModel", name := "put", desc := "(III)V" } : Jvm.MethodName) ({ cls := "WaitedCommitsModel", name := "put", desc := "(III)V" } : Jvm.MethodName)),
  (Jvm.Cond.selects "WaitedCommitsModel" ({ cls := "WaitedCommitsModel", name := "next", desc := "()I" } : Jvm.MethodName) ({ cls := "WaitedCommitsModel", name := "next", desc := "()I" } : Jvm.MethodName)),
  (Jvm.Cond.selects "WaitedCommitsModel" ({ cls := "WaitedCommitsModel", name := "deal", desc := "(I)V" } : Jvm.MethodName) ({ cls := "WaitedCommitsModel", name := "deal", desc := "(I)V" } : Jvm.MethodName)),
  (Jvm.Cond.selects "WaitedCommitsModel" ({ cls := "WaitedCommitsModel", name := "finish", desc := "(II)V" } : Jvm.MethodName) ({ cls := "WaitedCommitsModel", name := "finish", desc := "(II)V" } : Jvm.MethodName)),
  (Jvm.Cond.selects "WaitedCommitsModel" ({ cls := "WaitedCommitsModel", name := "raise", desc := "(II)V" } : Jvm.MethodName) ({ cls := "WaitedCommitsModel", name := "raise", desc := "(II)V" } : Jvm.MethodName))]
def wc_gw (w : Cond) : Bool := match w with
  | .fieldLinkNest .. => true
  | .methodLinkNest .. => true
  | w => w.onTables && w.keeps
theorem wc_gw_on {w : Cond} (h : wc_gw w = true) : w.onTables = true := by
  unfold wc_gw at h
  split at h
  · rfl
  · rfl
  · exact (Bool.and_eq_true _ _ ▸ h).1
theorem wc_gw_ok : ∀ w ∈ wc_tb, wc_gw w = true := List.all_eq_true.mp (by decide +kernel)
theorem wc_tb_on (w : Cond) (hw : w ∈ wc_tb) : w.onTables = true := wc_gw_on (wc_gw_ok w hw)
theorem wc_tb_warm {args : Array Value} {s U : State} (hW : s.WarmedH U.vm) (hts : ∀ w ∈ wc_tb, w.before args s = true) : ∀ w ∈ wc_tb, va_Nw w U := by
  intro w hw
  have h := wc_gw_ok w hw
  have hb := hts w hw
  unfold wc_gw at h
  split at h
  · exact va_Nw.warmF hW (va_Nw.of rfl hb)
  · exact va_Nw.warmM hW (va_Nw.of rfl hb)
  · exact word_at hW (Or.inl h) hb
theorem tw_0 : (Jvm.Cond.initialized "WaitedCommitsLaw") ∈ wc_tb := List.mem_of_getElem? (i := 0) rfl
theorem tw_1 : (Jvm.Cond.initialized "WaitedCommits") ∈ wc_tb := List.mem_of_getElem? (i := 1) rfl
theorem tw_2 : (Jvm.Cond.initialized "java/lang/Math") ∈ wc_tb := List.mem_of_getElem? (i := 2) rfl
theorem tw_3 : (Jvm.Cond.initialized "WaitedCommits$Site") ∈ wc_tb := List.mem_of_getElem? (i := 3) rfl
theorem tw_4 : (Jvm.Cond.initialized "WaitedCommits$Key") ∈ wc_tb := List.mem_of_getElem? (i := 4) rfl
theorem tw_5 : (Jvm.Cond.initialized "WaitedCommits$Transaction") ∈ wc_tb := List.mem_of_getElem? (i := 5) rfl
theorem tw_6 : (Jvm.Cond.initialized "WaitedCommits$Message") ∈ wc_tb := List.mem_of_getElem? (i := 6) rfl
theorem tw_7 : (Jvm.Cond.initialized "WaitedCommitsModel") ∈ wc_tb := List.mem_of_getElem? (i := 7) rfl
theorem tw_8 : (Jvm.Cond.classLink "WaitedCommitsLaw" (7 : Nat) "WaitedCommits") ∈ wc_tb := List.mem_of_getElem? (i := 8) rfl
theorem tw_9 : (Jvm.Cond.instantiable "WaitedCommits" (9 : Nat)) ∈ wc_tb := List.mem_of_getElem? (i := 9) rfl
theorem tw_10 : (Jvm.Cond.methodLink "WaitedCommitsLaw" (15 : Nat) ({ cls := "WaitedCommits", name := "<init>", desc := "(I)V" } : Jvm.MethodName)) ∈ wc_tb := List.mem_of_getElem? (i := 10) rfl
theorem tw_11 : (Jvm.Cond.instanceMethod ({ cls := "WaitedCommits", name := "<init>", desc := "(I)V" } : Jvm.MethodName)) ∈ wc_tb := List.mem_of_getElem? (i := 11) rfl
theorem tw_12 : (Jvm.Cond.code ({ cls := "WaitedCommits", name := "<init>", desc := "(I)V" } : Jvm.MethodName) prog_1_method_1_code (4 : Nat) (Option.none : Option Jvm.ClassFile.FieldType)) ∈ wc_tb := List.mem_of_getElem? (i := 12) rfl
theorem tw_13 : (Jvm.Cond.methodLink "WaitedCommits" (1 : Nat) ({ cls := "java/lang/Object", name := "<init>", desc := "()V" } : Jvm.MethodName)) ∈ wc_tb := List.mem_of_getElem? (i := 13) rfl
theorem tw_14 : (Jvm.Cond.instanceMethod ({ cls := "java/lang/Object", name := "<init>", desc := "()V" } : Jvm.MethodName)) ∈ wc_tb := List.mem_of_getElem? (i := 14) rfl
theorem tw_15 : (Jvm.Cond.code ({ cls := "java/lang/Object", name := "<init>", desc := "()V" } : Jvm.MethodName) object_method_1_code (1 : Nat) (Option.none : Option Jvm.ClassFile.FieldType)) ∈ wc_tb := List.mem_of_getElem? (i := 15) rfl
theorem tw_16 : (Jvm.Cond.classLink "WaitedCommits" (9 : Nat) "WaitedCommits$Site") ∈ wc_tb := List.mem_of_getElem? (i := 16) rfl
theorem tw_17 : (Jvm.Cond.classLink "WaitedCommits" (15 : Nat) "WaitedCommits$Key") ∈ wc_tb := List.mem_of_getElem? (i := 17) rfl
theorem tw_18 : (Jvm.Cond.classLink "WaitedCommits" (21 : Nat) "WaitedCommits$Transaction") ∈ wc_tb := List.mem_of_getElem? (i := 18) rfl
theorem tw_19 : (Jvm.Cond.classLink "WaitedCommits" (27 : Nat) "WaitedCommits$Message") ∈ wc_tb := List.mem_of_getElem? (i := 19) rfl
theorem tw_20 : (Jvm.Cond.methodLink "WaitedCommits" (46 : Nat) ({ cls := "java/lang/Math", name := "min", desc := "(II)I" } : Jvm.MethodName)) ∈ wc_tb := List.mem_of_getElem? (i := 20) rfl
theorem tw_21 : (Jvm.Cond.static ({ cls := "java/lang/Math", name := "min", desc := "(II)I" } : Jvm.MethodName)) ∈ wc_tb := List.mem_of_getElem? (i := 21) rfl
theorem tw_22 : (Jvm.Cond.code ({ cls := "java/lang/Math", name := "min", desc := "(II)I" } : Jvm.MethodName) prog_8_method_69_code (2 : Nat) (Option.some Jvm.ClassFile.FieldType.int)) ∈ wc_tb := List.mem_of_getElem? (i := 22) rfl
theorem tw_23 : (Jvm.Cond.methodLink "WaitedCommits" (52 : Nat) ({ cls := "java/lang/Math", name := "max", desc := "(II)I" } : Jvm.MethodName)) ∈ wc_tb := List.mem_of_getElem? (i := 23) rfl
theorem tw_24 : (Jvm.Cond.static ({ cls := "java/lang/Math", name := "max", desc := "(II)I" } : Jvm.MethodName)) ∈ wc_tb := List.mem_of_getElem? (i := 24) rfl
theorem tw_25 : (Jvm.Cond.code ({ cls := "java/lang/Math", name := "max", desc := "(II)I" } : Jvm.MethodName) prog_8_method_65_code (2 : Nat) (Option.some Jvm.ClassFile.FieldType.int)) ∈ wc_tb := List.mem_of_getElem? (i := 25) rfl
theorem tw_26 : (Jvm.Cond.instantiable "WaitedCommits$Site" (5 : Nat)) ∈ wc_tb := List.mem_of_getElem? (i := 26) rfl
theorem tw_27 : (Jvm.Cond.methodLinkNest "WaitedCommits" (58 : Nat) ({ cls := "WaitedCommits$Site", name := "<init>", desc := "(I)V" } : Jvm.MethodName) "WaitedCommits") ∈ wc_tb := List.mem_of_getElem? (i := 27) rfl
theorem tw_28 : (Jvm.Cond.instanceMethod ({ cls := "WaitedCommits$Site", name := "<init>", desc := "(I)V" } : Jvm.MethodName)) ∈ wc_tb := List.mem_of_getElem? (i := 28) rfl
theorem tw_29 : (Jvm.Cond.code ({ cls := "WaitedCommits$Site", name := "<init>", desc := "(I)V" } : Jvm.MethodName) prog_4_method_1_code (2 : Nat) (Option.none : Option Jvm.ClassFile.FieldType)) ∈ wc_tb := List.mem_of_getElem? (i := 29) rfl
theorem tw_30 : (Jvm.Cond.methodLink "WaitedCommits$Site" (1 : Nat) ({ cls := "java/lang/Object", name := "<init>", desc := "()V" } : Jvm.MethodName)) ∈ wc_tb := List.mem_of_getElem? (i := 30) rfl
theorem tw_31 : (Jvm.Cond.fieldLink "WaitedCommits$Site" (20 : Nat) "WaitedCommits$Site" "before" "I") ∈ wc_tb := List.mem_of_getElem? (i := 31) rfl
theorem tw_32 : (Jvm.Cond.fieldLinkNest "WaitedCommits" (73 : Nat) "WaitedCommits$Site" "before" "I" "WaitedCommits") ∈ wc_tb := List.mem_of_getElem? (i := 32) rfl
theorem tw_33 : (Jvm.Cond.fieldLink "WaitedCommits$Site" (23 : Nat) "WaitedCommits$Site" "after" "I") ∈ wc_tb := List.mem_of_getElem? (i := 33) rfl
theorem tw_34 : (Jvm.Cond.fieldLinkNest "WaitedCommits" (76 : Nat) "WaitedCommits$Site" "after" "I" "WaitedCommits") ∈ wc_tb := List.mem_of_getElem? (i := 34) rfl
theorem tw_35 : (Jvm.Cond.fieldLink "WaitedCommits$Site" (7 : Nat) "WaitedCommits$Site" "delay" "I") ∈ wc_tb := List.mem_of_getElem? (i := 35) rfl
theorem tw_36 : (Jvm.Cond.fieldLinkNest "WaitedCommits" (79 : Nat) "WaitedCommits$Site" "delay" "I" "WaitedCommits") ∈ wc_tb := List.mem_of_getElem? (i := 36) rfl
theorem tw_37 : (Jvm.Cond.fieldLink "WaitedCommits$Site" (13 : Nat) "WaitedCommits$Site" "isUp" "Z") ∈ wc_tb := List.mem_of_getElem? (i := 37) rfl
theorem tw_38 : (Jvm.Cond.fieldLinkNest "WaitedCommits" (82 : Nat) "WaitedCommits$Site" "isUp" "Z" "WaitedCommits") ∈ wc_tb := List.mem_of_getElem? (i := 38) rfl
theorem tw_39 : (Jvm.Cond.fieldLink "WaitedCommits$Site" (17 : Nat) "WaitedCommits$Site" "bound" "I") ∈ wc_tb := List.mem_of_getElem? (i := 39) rfl
theorem tw_40 : (Jvm.Cond.fieldLinkNest "WaitedCommits" (168 : Nat) "WaitedCommits$Site" "bound" "I" "WaitedCommits") ∈ wc_tb := List.mem_of_getElem? (i := 40) rfl
theorem tw_41 : (Jvm.Cond.lays "WaitedCommits$Site" "WaitedCommits$Site" "before" "I") ∈ wc_tb := List.mem_of_getElem? (i := 41) rfl
theorem tw_42 : (Jvm.Cond.lays "WaitedCommits$Site" "WaitedCommits$Site" "after" "I") ∈ wc_tb := List.mem_of_getElem? (i := 42) rfl
theorem tw_43 : (Jvm.Cond.lays "WaitedCommits$Site" "WaitedCommits$Site" "delay" "I") ∈ wc_tb := List.mem_of_getElem? (i := 43) rfl
theorem tw_44 : (Jvm.Cond.lays "WaitedCommits$Site" "WaitedCommits$Site" "isUp" "Z") ∈ wc_tb := List.mem_of_getElem? (i := 44) rfl
theorem tw_45 : (Jvm.Cond.lays "WaitedCommits$Site" "WaitedCommits$Site" "bound" "I") ∈ wc_tb := List.mem_of_getElem? (i := 45) rfl
theorem tw_46 : (Jvm.Cond.instantiable "WaitedCommits$Key" (3 : Nat)) ∈ wc_tb := List.mem_of_getElem? (i := 46) rfl
theorem tw_47 : (Jvm.Cond.methodLinkNest "WaitedCommits" (61 : Nat) ({ cls := "WaitedCommits$Key", name := "<init>", desc := "()V" } : Jvm.MethodName) "WaitedCommits") ∈ wc_tb := List.mem_of_getElem? (i := 47) rfl
theorem tw_48 : (Jvm.Cond.instanceMethod ({ cls := "WaitedCommits$Key", name := "<init>", desc := "()V" } : Jvm.MethodName)) ∈ wc_tb := List.mem_of_getElem? (i := 48) rfl
theorem tw_49 : (Jvm.Cond.code ({ cls := "WaitedCommits$Key", name := "<init>", desc := "()V" } : Jvm.MethodName) prog_2_method_1_code (1 : Nat) (Option.none : Option Jvm.ClassFile.FieldType)) ∈ wc_tb := List.mem_of_getElem? (i := 49) rfl
theorem tw_50 : (Jvm.Cond.methodLink "WaitedCommits$Key" (3 : Nat) ({ cls := "java/lang/Object", name := "<init>", desc := "()V" } : Jvm.MethodName)) ∈ wc_tb := List.mem_of_getElem? (i := 50) rfl
theorem tw_51 : (Jvm.Cond.fieldLink "WaitedCommits$Key" (9 : Nat) "WaitedCommits$Key" "values" "[I") ∈ wc_tb := List.mem_of_getElem? (i := 51) rfl
theorem tw_52 : (Jvm.Cond.fieldLinkNest "WaitedCommits" (118 : Nat) "WaitedCommits$Key" "values" "[I" "WaitedCommits") ∈ wc_tb := List.mem_of_getElem? (i := 52) rfl
theorem tw_53 : (Jvm.Cond.fieldLink "WaitedCommits$Key" (15 : Nat) "WaitedCommits$Key" "stamps" "[I") ∈ wc_tb := List.mem_of_getElem? (i := 53) rfl
theorem tw_54 : (Jvm.Cond.fieldLinkNest "WaitedCommits" (174 : Nat) "WaitedCommits$Key" "stamps" "[I" "WaitedCommits") ∈ wc_tb := List.mem_of_getElem? (i := 54) rfl
theorem tw_55 : (Jvm.Cond.fieldLink "WaitedCommits$Key" (18 : Nat) "WaitedCommits$Key" "count" "I") ∈ wc_tb := List.mem_of_getElem? (i := 55) rfl
theorem tw_56 : (Jvm.Cond.fieldLinkNest "WaitedCommits" (171 : Nat) "WaitedCommits$Key" "count" "I" "WaitedCommits") ∈ wc_tb := List.mem_of_getElem? (i := 56) rfl
theorem tw_57 : (Jvm.Cond.laysFinal "WaitedCommits$Key" "WaitedCommits$Key" "values" "[I") ∈ wc_tb := List.mem_of_getElem? (i := 57) rfl
theorem tw_58 : (Jvm.Cond.laysFinal "WaitedCommits$Key" "WaitedCommits$Key" "stamps" "[I") ∈ wc_tb := List.mem_of_getElem? (i := 58) rfl
theorem tw_59 : (Jvm.Cond.lays "WaitedCommits$Key" "WaitedCommits$Key" "count" "I") ∈ wc_tb := List.mem_of_getElem? (i := 59) rfl
theorem tw_60 : (Jvm.Cond.instantiable "WaitedCommits$Transaction" (10 : Nat)) ∈ wc_tb := List.mem_of_getElem? (i := 60) rfl
theorem tw_61 : (Jvm.Cond.methodLinkNest "WaitedCommits" (62 : Nat) ({ cls := "WaitedCommits$Transaction", name := "<init>", desc := "()V" } : Jvm.MethodName) "WaitedCommits") ∈ wc_tb := List.mem_of_getElem? (i := 61) rfl
theorem tw_62 : (Jvm.Cond.instanceMethod ({ cls := "WaitedCommits$Transaction", name := "<init>", desc := "()V" } : Jvm.MethodName)) ∈ wc_tb := List.mem_of_getElem? (i := 62) rfl
theorem tw_63 : (Jvm.Cond.code ({ cls := "WaitedCommits$Transaction", name := "<init>", desc := "()V" } : Jvm.MethodName) prog_5_method_1_code (1 : Nat) (Option.none : Option Jvm.ClassFile.FieldType)) ∈ wc_tb := List.mem_of_getElem? (i := 63) rfl
theorem tw_64 : (Jvm.Cond.methodLink "WaitedCommits$Transaction" (3 : Nat) ({ cls := "java/lang/Object", name := "<init>", desc := "()V" } : Jvm.MethodName)) ∈ wc_tb := List.mem_of_getElem? (i := 64) rfl
theorem tw_65 : (Jvm.Cond.fieldLink "WaitedCommits$Transaction" (9 : Nat) "WaitedCommits$Transaction" "state" "I") ∈ wc_tb := List.mem_of_getElem? (i := 65) rfl
theorem tw_66 : (Jvm.Cond.fieldLinkNest "WaitedCommits" (93 : Nat) "WaitedCommits$Transaction" "state" "I" "WaitedCommits") ∈ wc_tb := List.mem_of_getElem? (i := 66) rfl
theorem tw_67 : (Jvm.Cond.fieldLink "WaitedCommits$Transaction" (15 : Nat) "WaitedCommits$Transaction" "birth" "I") ∈ wc_tb := List.mem_of_getElem? (i := 67) rfl
theorem tw_68 : (Jvm.Cond.fieldLinkNest "WaitedCommits" (96 : Nat) "WaitedCommits$Transaction" "birth" "I" "WaitedCommits") ∈ wc_tb := List.mem_of_getElem? (i := 68) rfl
theorem tw_69 : (Jvm.Cond.fieldLink "WaitedCommits$Transaction" (18 : Nat) "WaitedCommits$Transaction" "coordinator" "I") ∈ wc_tb := List.mem_of_getElem? (i := 69) rfl
theorem tw_70 : (Jvm.Cond.fieldLinkNest "WaitedCommits" (125 : Nat) "WaitedCommits$Transaction" "coordinator" "I" "WaitedCommits") ∈ wc_tb := List.mem_of_getElem? (i := 70) rfl
theorem tw_71 : (Jvm.Cond.fieldLink "WaitedCommits$Transaction" (21 : Nat) "WaitedCommits$Transaction" "floor" "I") ∈ wc_tb := List.mem_of_getElem? (i := 71) rfl
theorem tw_72 : (Jvm.Cond.fieldLinkNest "WaitedCommits" (191 : Nat) "WaitedCommits$Transaction" "floor" "I" "WaitedCommits") ∈ wc_tb := List.mem_of_getElem? (i := 72) rfl
theorem tw_73 : (Jvm.Cond.fieldLink "WaitedCommits$Transaction" (24 : Nat) "WaitedCommits$Transaction" "awaited" "I") ∈ wc_tb := List.mem_of_getElem? (i := 73) rfl
theorem tw_74 : (Jvm.Cond.fieldLinkNest "WaitedCommits" (197 : Nat) "WaitedCommits$Transaction" "awaited" "I" "WaitedCommits") ∈ wc_tb := List.mem_of_getElem? (i := 74) rfl
theorem tw_75 : (Jvm.Cond.fieldLink "WaitedCommits$Transaction" (27 : Nat) "WaitedCommits$Transaction" "stamp" "I") ∈ wc_tb := List.mem_of_getElem? (i := 75) rfl
theorem tw_76 : (Jvm.Cond.fieldLinkNest "WaitedCommits" (156 : Nat) "WaitedCommits$Transaction" "stamp" "I" "WaitedCommits") ∈ wc_tb := List.mem_of_getElem? (i := 76) rfl
theorem tw_77 : (Jvm.Cond.fieldLink "WaitedCommits$Transaction" (30 : Nat) "WaitedCommits$Transaction" "end" "I") ∈ wc_tb := List.mem_of_getElem? (i := 77) rfl
theorem tw_78 : (Jvm.Cond.fieldLinkNest "WaitedCommits" (159 : Nat) "WaitedCommits$Transaction" "end" "I" "WaitedCommits") ∈ wc_tb := List.mem_of_getElem? (i := 78) rfl
theorem tw_79 : (Jvm.Cond.fieldLink "WaitedCommits$Transaction" (33 : Nat) "WaitedCommits$Transaction" "locks" "[I") ∈ wc_tb := List.mem_of_getElem? (i := 79) rfl
theorem tw_80 : (Jvm.Cond.fieldLinkNest "WaitedCommits" (111 : Nat) "WaitedCommits$Transaction" "locks" "[I" "WaitedCommits") ∈ wc_tb := List.mem_of_getElem? (i := 80) rfl
theorem tw_81 : (Jvm.Cond.fieldLink "WaitedCommits$Transaction" (37 : Nat) "WaitedCommits$Transaction" "written" "[I") ∈ wc_tb := List.mem_of_getElem? (i := 81) rfl
theorem tw_82 : (Jvm.Cond.fieldLinkNest "WaitedCommits" (115 : Nat) "WaitedCommits$Transaction" "written" "[I" "WaitedCommits") ∈ wc_tb := List.mem_of_getElem? (i := 82) rfl
theorem tw_83 : (Jvm.Cond.fieldLink "WaitedCommits$Transaction" (40 : Nat) "WaitedCommits$Transaction" "marks" "[I") ∈ wc_tb := List.mem_of_getElem? (i := 83) rfl
theorem tw_84 : (Jvm.Cond.fieldLinkNest "WaitedCommits" (162 : Nat) "WaitedCommits$Transaction" "marks" "[I" "WaitedCommits") ∈ wc_tb := List.mem_of_getElem? (i := 84) rfl
theorem tw_85 : (Jvm.Cond.lays "WaitedCommits$Transaction" "WaitedCommits$Transaction" "state" "I") ∈ wc_tb := List.mem_of_getElem? (i := 85) rfl
theorem tw_86 : (Jvm.Cond.lays "WaitedCommits$Transaction" "WaitedCommits$Transaction" "birth" "I") ∈ wc_tb := List.mem_of_getElem? (i := 86) rfl
theorem tw_87 : (Jvm.Cond.lays "WaitedCommits$Transaction" "WaitedCommits$Transaction" "coordinator" "I") ∈ wc_tb := List.mem_of_getElem? (i := 87) rfl
theorem tw_88 : (Jvm.Cond.lays "WaitedCommits$Transaction" "WaitedCommits$Transaction" "floor" "I") ∈ wc_tb := List.mem_of_getElem? (i := 88) rfl
theorem tw_89 : (Jvm.Cond.lays "WaitedCommits$Transaction" "WaitedCommits$Transaction" "awaited" "I") ∈ wc_tb := List.mem_of_getElem? (i := 89) rfl
theorem tw_90 : (Jvm.Cond.lays "WaitedCommits$Transaction" "WaitedCommits$Transaction" "stamp" "I") ∈ wc_tb := List.mem_of_getElem? (i := 90) rfl
theorem tw_91 : (Jvm.Cond.lays "WaitedCommits$Transaction" "WaitedCommits$Transaction" "end" "I") ∈ wc_tb := List.mem_of_getElem? (i := 91) rfl
theorem tw_92 : (Jvm.Cond.laysFinal "WaitedCommits$Transaction" "WaitedCommits$Transaction" "locks" "[I") ∈ wc_tb := List.mem_of_getElem? (i := 92) rfl
theorem tw_93 : (Jvm.Cond.laysFinal "WaitedCommits$Transaction" "WaitedCommits$Transaction" "written" "[I") ∈ wc_tb := List.mem_of_getElem? (i := 93) rfl
theorem tw_94 : (Jvm.Cond.laysFinal "WaitedCommits$Transaction" "WaitedCommits$Transaction" "marks" "[I") ∈ wc_tb := List.mem_of_getElem? (i := 94) rfl
theorem tw_95 : (Jvm.Cond.instantiable "WaitedCommits$Message" (6 : Nat)) ∈ wc_tb := List.mem_of_getElem? (i := 95) rfl
theorem tw_96 : (Jvm.Cond.methodLinkNest "WaitedCommits" (63 : Nat) ({ cls := "WaitedCommits$Message", name := "<init>", desc := "(II)V" } : Jvm.MethodName) "WaitedCommits") ∈ wc_tb := List.mem_of_getElem? (i := 96) rfl
theorem tw_97 : (Jvm.Cond.instanceMethod ({ cls := "WaitedCommits$Message", name := "<init>", desc := "(II)V" } : Jvm.MethodName)) ∈ wc_tb := List.mem_of_getElem? (i := 97) rfl
theorem tw_98 : (Jvm.Cond.code ({ cls := "WaitedCommits$Message", name := "<init>", desc := "(II)V" } : Jvm.MethodName) prog_3_method_1_code (3 : Nat) (Option.none : Option Jvm.ClassFile.FieldType)) ∈ wc_tb := List.mem_of_getElem? (i := 98) rfl
theorem tw_99 : (Jvm.Cond.methodLink "WaitedCommits$Message" (3 : Nat) ({ cls := "java/lang/Object", name := "<init>", desc := "()V" } : Jvm.MethodName)) ∈ wc_tb := List.mem_of_getElem? (i := 99) rfl
theorem tw_100 : (Jvm.Cond.fieldLink "WaitedCommits$Message" (24 : Nat) "WaitedCommits$Message" "transaction" "I") ∈ wc_tb := List.mem_of_getElem? (i := 100) rfl
theorem tw_101 : (Jvm.Cond.fieldLinkNest "WaitedCommits" (238 : Nat) "WaitedCommits$Message" "transaction" "I" "WaitedCommits") ∈ wc_tb := List.mem_of_getElem? (i := 101) rfl
theorem tw_102 : (Jvm.Cond.fieldLink "WaitedCommits$Message" (27 : Nat) "WaitedCommits$Message" "participant" "I") ∈ wc_tb := List.mem_of_getElem? (i := 102) rfl
theorem tw_103 : (Jvm.Cond.fieldLinkNest "WaitedCommits" (241 : Nat) "WaitedCommits$Message" "participant" "I" "WaitedCommits") ∈ wc_tb := List.mem_of_getElem? (i := 103) rfl
theorem tw_104 : (Jvm.Cond.fieldLink "WaitedCommits$Message" (9 : Nat) "WaitedCommits$Message" "kind" "I") ∈ wc_tb := List.mem_of_getElem? (i := 104) rfl
theorem tw_105 : (Jvm.Cond.fieldLinkNest "WaitedCommits" (211 : Nat) "WaitedCommits$Message" "kind" "I" "WaitedCommits") ∈ wc_tb := List.mem_of_getElem? (i := 105) rfl
theorem tw_106 : (Jvm.Cond.fieldLink "WaitedCommits$Message" (15 : Nat) "WaitedCommits$Message" "receiver" "I") ∈ wc_tb := List.mem_of_getElem? (i := 106) rfl
theorem tw_107 : (Jvm.Cond.fieldLinkNest "WaitedCommits" (214 : Nat) "WaitedCommits$Message" "receiver" "I" "WaitedCommits") ∈ wc_tb := List.mem_of_getElem? (i := 107) rfl
theorem tw_108 : (Jvm.Cond.fieldLink "WaitedCommits$Message" (18 : Nat) "WaitedCommits$Message" "arrival" "I") ∈ wc_tb := List.mem_of_getElem? (i := 108) rfl
theorem tw_109 : (Jvm.Cond.fieldLinkNest "WaitedCommits" (217 : Nat) "WaitedCommits$Message" "arrival" "I" "WaitedCommits") ∈ wc_tb := List.mem_of_getElem? (i := 109) rfl
theorem tw_110 : (Jvm.Cond.fieldLink "WaitedCommits$Message" (21 : Nat) "WaitedCommits$Message" "order" "I") ∈ wc_tb := List.mem_of_getElem? (i := 110) rfl
theorem tw_111 : (Jvm.Cond.fieldLinkNest "WaitedCommits" (220 : Nat) "WaitedCommits$Message" "order" "I" "WaitedCommits") ∈ wc_tb := List.mem_of_getElem? (i := 111) rfl
theorem tw_112 : (Jvm.Cond.laysFinal "WaitedCommits$Message" "WaitedCommits$Message" "transaction" "I") ∈ wc_tb := List.mem_of_getElem? (i := 112) rfl
theorem tw_113 : (Jvm.Cond.laysFinal "WaitedCommits$Message" "WaitedCommits$Message" "participant" "I") ∈ wc_tb := List.mem_of_getElem? (i := 113) rfl
theorem tw_114 : (Jvm.Cond.lays "WaitedCommits$Message" "WaitedCommits$Message" "kind" "I") ∈ wc_tb := List.mem_of_getElem? (i := 114) rfl
theorem tw_115 : (Jvm.Cond.lays "WaitedCommits$Message" "WaitedCommits$Message" "receiver" "I") ∈ wc_tb := List.mem_of_getElem? (i := 115) rfl
theorem tw_116 : (Jvm.Cond.lays "WaitedCommits$Message" "WaitedCommits$Message" "arrival" "I") ∈ wc_tb := List.mem_of_getElem? (i := 116) rfl
theorem tw_117 : (Jvm.Cond.lays "WaitedCommits$Message" "WaitedCommits$Message" "order" "I") ∈ wc_tb := List.mem_of_getElem? (i := 117) rfl
theorem tw_118 : (Jvm.Cond.fieldLink "WaitedCommits" (55 : Nat) "WaitedCommits" "greatestError" "I") ∈ wc_tb := List.mem_of_getElem? (i := 118) rfl
theorem tw_119 : (Jvm.Cond.fieldLink "WaitedCommits" (11 : Nat) "WaitedCommits" "sites" "[LWaitedCommits$Site;") ∈ wc_tb := List.mem_of_getElem? (i := 119) rfl
theorem tw_120 : (Jvm.Cond.fieldLink "WaitedCommits" (17 : Nat) "WaitedCommits" "keys" "[LWaitedCommits$Key;") ∈ wc_tb := List.mem_of_getElem? (i := 120) rfl
theorem tw_121 : (Jvm.Cond.fieldLink "WaitedCommits" (23 : Nat) "WaitedCommits" "transactions" "[LWaitedCommits$Transaction;") ∈ wc_tb := List.mem_of_getElem? (i := 121) rfl
theorem tw_122 : (Jvm.Cond.fieldLink "WaitedCommits" (29 : Nat) "WaitedCommits" "slots" "[LWaitedCommits$Message;") ∈ wc_tb := List.mem_of_getElem? (i := 122) rfl
theorem tw_123 : (Jvm.Cond.fieldLink "WaitedCommits" (33 : Nat) "WaitedCommits" "time" "I") ∈ wc_tb := List.mem_of_getElem? (i := 123) rfl
theorem tw_124 : (Jvm.Cond.fieldLink "WaitedCommits" (37 : Nat) "WaitedCommits" "begun" "I") ∈ wc_tb := List.mem_of_getElem? (i := 124) rfl
theorem tw_125 : (Jvm.Cond.fieldLink "WaitedCommits" (40 : Nat) "WaitedCommits" "sent" "I") ∈ wc_tb := List.mem_of_getElem? (i := 125) rfl
theorem tw_126 : (Jvm.Cond.fieldLink "WaitedCommits" (43 : Nat) "WaitedCommits" "underWay" "I") ∈ wc_tb := List.mem_of_getElem? (i := 126) rfl
theorem tw_127 : (Jvm.Cond.laysFinal "WaitedCommits" "WaitedCommits" "greatestError" "I") ∈ wc_tb := List.mem_of_getElem? (i := 127) rfl
theorem tw_128 : (Jvm.Cond.laysFinal "WaitedCommits" "WaitedCommits" "sites" "[LWaitedCommits$Site;") ∈ wc_tb := List.mem_of_getElem? (i := 128) rfl
theorem tw_129 : (Jvm.Cond.laysFinal "WaitedCommits" "WaitedCommits" "keys" "[LWaitedCommits$Key;") ∈ wc_tb := List.mem_of_getElem? (i := 129) rfl
theorem tw_130 : (Jvm.Cond.laysFinal "WaitedCommits" "WaitedCommits" "transactions" "[LWaitedCommits$Transaction;") ∈ wc_tb := List.mem_of_getElem? (i := 130) rfl
theorem tw_131 : (Jvm.Cond.laysFinal "WaitedCommits" "WaitedCommits" "slots" "[LWaitedCommits$Message;") ∈ wc_tb := List.mem_of_getElem? (i := 131) rfl
theorem tw_132 : (Jvm.Cond.lays "WaitedCommits" "WaitedCommits" "time" "I") ∈ wc_tb := List.mem_of_getElem? (i := 132) rfl
theorem tw_133 : (Jvm.Cond.lays "WaitedCommits" "WaitedCommits" "begun" "I") ∈ wc_tb := List.mem_of_getElem? (i := 133) rfl
theorem tw_134 : (Jvm.Cond.lays "WaitedCommits" "WaitedCommits" "sent" "I") ∈ wc_tb := List.mem_of_getElem? (i := 134) rfl
theorem tw_135 : (Jvm.Cond.lays "WaitedCommits" "WaitedCommits" "underWay" "I") ∈ wc_tb := List.mem_of_getElem? (i := 135) rfl
theorem tw_136 : (Jvm.Cond.methodLink "WaitedCommitsLaw" (21 : Nat) ({ cls := "WaitedCommits", name := "clock", desc := "(III)Z" } : Jvm.MethodName)) ∈ wc_tb := List.mem_of_getElem? (i := 136) rfl
theorem tw_137 : (Jvm.Cond.instanceMethod ({ cls := "WaitedCommits", name := "clock", desc := "(III)Z" } : Jvm.MethodName)) ∈ wc_tb := List.mem_of_getElem? (i := 137) rfl
theorem tw_138 : (Jvm.Cond.selects "WaitedCommits" ({ cls := "WaitedCommits", name := "clock", desc := "(III)Z" } : Jvm.MethodName) ({ cls := "WaitedCommits", name := "clock", desc := "(III)Z" } : Jvm.MethodName)) ∈ wc_tb := List.mem_of_getElem? (i := 138) rfl
theorem tw_139 : (Jvm.Cond.code ({ cls := "WaitedCommits", name := "clock", desc := "(III)Z" } : Jvm.MethodName) prog_1_method_2_code (4 : Nat) (Option.some Jvm.ClassFile.FieldType.boolean)) ∈ wc_tb := List.mem_of_getElem? (i := 139) rfl
theorem tw_140 : (Jvm.Cond.methodLink "WaitedCommits" (66 : Nat) ({ cls := "WaitedCommits", name := "isSite", desc := "(I)Z" } : Jvm.MethodName)) ∈ wc_tb := List.mem_of_getElem? (i := 140) rfl
theorem tw_141 : (Jvm.Cond.static ({ cls := "WaitedCommits", name := "isSite", desc := "(I)Z" } : Jvm.MethodName)) ∈ wc_tb := List.mem_of_getElem? (i := 141) rfl
theorem tw_142 : (Jvm.Cond.code ({ cls := "WaitedCommits", name := "isSite", desc := "(I)Z" } : Jvm.MethodName) prog_1_method_22_code (1 : Nat) (Option.some Jvm.ClassFile.FieldType.boolean)) ∈ wc_tb := List.mem_of_getElem? (i := 142) rfl
theorem tw_143 : (Jvm.Cond.methodLink "WaitedCommits" (70 : Nat) ({ cls := "WaitedCommits", name := "isError", desc := "(I)Z" } : Jvm.MethodName)) ∈ wc_tb := List.mem_of_getElem? (i := 143) rfl
theorem tw_144 : (Jvm.Cond.instanceMethod ({ cls := "WaitedCommits", name := "isError", desc := "(I)Z" } : Jvm.MethodName)) ∈ wc_tb := List.mem_of_getElem? (i := 144) rfl
theorem tw_145 : (Jvm.Cond.code ({ cls := "WaitedCommits", name := "isError", desc := "(I)Z" } : Jvm.MethodName) prog_1_method_27_code (2 : Nat) (Option.some Jvm.ClassFile.FieldType.boolean)) ∈ wc_tb := List.mem_of_getElem? (i := 145) rfl
theorem tw_146 : (Jvm.Cond.methodLink "WaitedCommitsLaw" (26 : Nat) ({ cls := "WaitedCommits", name := "delay", desc := "(II)Z" } : Jvm.MethodName)) ∈ wc_tb := List.mem_of_getElem? (i := 146) rfl
theorem tw_147 : (Jvm.Cond.instanceMethod ({ cls := "WaitedCommits", name := "delay", desc := "(II)Z" } : Jvm.MethodName)) ∈ wc_tb := List.mem_of_getElem? (i := 147) rfl
theorem tw_148 : (Jvm.Cond.selects "WaitedCommits" ({ cls := "WaitedCommits", name := "delay", desc := "(II)Z" } : Jvm.MethodName) ({ cls := "WaitedCommits", name := "delay", desc := "(II)Z" } : Jvm.MethodName)) ∈ wc_tb := List.mem_of_getElem? (i := 148) rfl
theorem tw_149 : (Jvm.Cond.code ({ cls := "WaitedCommits", name := "delay", desc := "(II)Z" } : Jvm.MethodName) prog_1_method_3_code (3 : Nat) (Option.some Jvm.ClassFile.FieldType.boolean)) ∈ wc_tb := List.mem_of_getElem? (i := 149) rfl
theorem tw_150 : (Jvm.Cond.methodLink "WaitedCommitsLaw" (31 : Nat) ({ cls := "WaitedCommits", name := "power", desc := "(IZ)Z" } : Jvm.MethodName)) ∈ wc_tb := List.mem_of_getElem? (i := 150) rfl
theorem tw_151 : (Jvm.Cond.instanceMethod ({ cls := "WaitedCommits", name := "power", desc := "(IZ)Z" } : Jvm.MethodName)) ∈ wc_tb := List.mem_of_getElem? (i := 151) rfl
theorem tw_152 : (Jvm.Cond.selects "WaitedCommits" ({ cls := "WaitedCommits", name := "power", desc := "(IZ)Z" } : Jvm.MethodName) ({ cls := "WaitedCommits", name := "power", desc := "(IZ)Z" } : Jvm.MethodName)) ∈ wc_tb := List.mem_of_getElem? (i := 152) rfl
theorem tw_153 : (Jvm.Cond.code ({ cls := "WaitedCommits", name := "power", desc := "(IZ)Z" } : Jvm.MethodName) prog_1_method_4_code (3 : Nat) (Option.some Jvm.ClassFile.FieldType.boolean)) ∈ wc_tb := List.mem_of_getElem? (i := 153) rfl
theorem tw_154 : (Jvm.Cond.methodLink "WaitedCommitsLaw" (36 : Nat) ({ cls := "WaitedCommits", name := "begin", desc := "(I)Z" } : Jvm.MethodName)) ∈ wc_tb := List.mem_of_getElem? (i := 154) rfl
theorem tw_155 : (Jvm.Cond.instanceMethod ({ cls := "WaitedCommits", name := "begin", desc := "(I)Z" } : Jvm.MethodName)) ∈ wc_tb := List.mem_of_getElem? (i := 155) rfl
theorem tw_156 : (Jvm.Cond.selects "WaitedCommits" ({ cls := "WaitedCommits", name := "begin", desc := "(I)Z" } : Jvm.MethodName) ({ cls := "WaitedCommits", name := "begin", desc := "(I)Z" } : Jvm.MethodName)) ∈ wc_tb := List.mem_of_getElem? (i := 156) rfl
theorem tw_157 : (Jvm.Cond.code ({ cls := "WaitedCommits", name := "begin", desc := "(I)Z" } : Jvm.MethodName) prog_1_method_5_code (2 : Nat) (Option.some Jvm.ClassFile.FieldType.boolean)) ∈ wc_tb := List.mem_of_getElem? (i := 157) rfl
theorem tw_158 : (Jvm.Cond.methodLink "WaitedCommits" (86 : Nat) ({ cls := "WaitedCommits", name := "isTransaction", desc := "(I)Z" } : Jvm.MethodName)) ∈ wc_tb := List.mem_of_getElem? (i := 158) rfl
theorem tw_159 : (Jvm.Cond.static ({ cls := "WaitedCommits", name := "isTransaction", desc := "(I)Z" } : Jvm.MethodName)) ∈ wc_tb := List.mem_of_getElem? (i := 159) rfl
theorem tw_160 : (Jvm.Cond.code ({ cls := "WaitedCommits", name := "isTransaction", desc := "(I)Z" } : Jvm.MethodName) prog_1_method_24_code (1 : Nat) (Option.some Jvm.ClassFile.FieldType.boolean)) ∈ wc_tb := List.mem_of_getElem? (i := 160) rfl
theorem tw_161 : (Jvm.Cond.methodLink "WaitedCommits" (89 : Nat) ({ cls := "WaitedCommits", name := "canBegin", desc := "(LWaitedCommits$Transaction;)Z" } : Jvm.MethodName)) ∈ wc_tb := List.mem_of_getElem? (i := 161) rfl
theorem tw_162 : (Jvm.Cond.static ({ cls := "WaitedCommits", name := "canBegin", desc := "(LWaitedCommits$Transaction;)Z" } : Jvm.MethodName)) ∈ wc_tb := List.mem_of_getElem? (i := 162) rfl
theorem tw_163 : (Jvm.Cond.code ({ cls := "WaitedCommits", name := "canBegin", desc := "(LWaitedCommits$Transaction;)Z" } : Jvm.MethodName) prog_1_method_26_code (2 : Nat) (Option.some Jvm.ClassFile.FieldType.boolean)) ∈ wc_tb := List.mem_of_getElem? (i := 163) rfl
theorem tw_164 : (Jvm.Cond.methodLinkNest "WaitedCommits" (121 : Nat) ({ cls := "WaitedCommits$Transaction", name := "leastParticipant", desc := "()I" } : Jvm.MethodName) "WaitedCommits") ∈ wc_tb := List.mem_of_getElem? (i := 164) rfl
theorem tw_165 : (Jvm.Cond.instanceMethod ({ cls := "WaitedCommits$Transaction", name := "leastParticipant", desc := "()I" } : Jvm.MethodName)) ∈ wc_tb := List.mem_of_getElem? (i := 165) rfl
theorem tw_166 : (Jvm.Cond.code ({ cls := "WaitedCommits$Transaction", name := "leastParticipant", desc := "()I" } : Jvm.MethodName) prog_5_method_3_code (2 : Nat) (Option.some Jvm.ClassFile.FieldType.int)) ∈ wc_tb := List.mem_of_getElem? (i := 166) rfl
theorem tw_167 : (Jvm.Cond.methodLink "WaitedCommits$Transaction" (43 : Nat) ({ cls := "WaitedCommits$Transaction", name := "holdsAt", desc := "(I)Z" } : Jvm.MethodName)) ∈ wc_tb := List.mem_of_getElem? (i := 167) rfl
theorem tw_168 : (Jvm.Cond.instanceMethod ({ cls := "WaitedCommits$Transaction", name := "holdsAt", desc := "(I)Z" } : Jvm.MethodName)) ∈ wc_tb := List.mem_of_getElem? (i := 168) rfl
theorem tw_169 : (Jvm.Cond.code ({ cls := "WaitedCommits$Transaction", name := "holdsAt", desc := "(I)Z" } : Jvm.MethodName) prog_5_method_2_code (3 : Nat) (Option.some Jvm.ClassFile.FieldType.boolean)) ∈ wc_tb := List.mem_of_getElem? (i := 169) rfl
theorem tw_170 : (Jvm.Cond.methodLink "WaitedCommitsLaw" (41 : Nat) ({ cls := "WaitedCommits", name := "read", desc := "(II)J" } : Jvm.MethodName)) ∈ wc_tb := List.mem_of_getElem? (i := 170) rfl
theorem tw_171 : (Jvm.Cond.instanceMethod ({ cls := "WaitedCommits", name := "read", desc := "(II)J" } : Jvm.MethodName)) ∈ wc_tb := List.mem_of_getElem? (i := 171) rfl
theorem tw_172 : (Jvm.Cond.selects "WaitedCommits" ({ cls := "WaitedCommits", name := "read", desc := "(II)J" } : Jvm.MethodName) ({ cls := "WaitedCommits", name := "read", desc := "(II)J" } : Jvm.MethodName)) ∈ wc_tb := List.mem_of_getElem? (i := 172) rfl
theorem tw_173 : (Jvm.Cond.code ({ cls := "WaitedCommits", name := "read", desc := "(II)J" } : Jvm.MethodName) prog_1_method_6_code (3 : Nat) (Option.some Jvm.ClassFile.FieldType.long)) ∈ wc_tb := List.mem_of_getElem? (i := 173) rfl
theorem tw_174 : (Jvm.Cond.methodLink "WaitedCommits" (99 : Nat) ({ cls := "WaitedCommits", name := "isActive", desc := "(I)Z" } : Jvm.MethodName)) ∈ wc_tb := List.mem_of_getElem? (i := 174) rfl
theorem tw_175 : (Jvm.Cond.instanceMethod ({ cls := "WaitedCommits", name := "isActive", desc := "(I)Z" } : Jvm.MethodName)) ∈ wc_tb := List.mem_of_getElem? (i := 175) rfl
theorem tw_176 : (Jvm.Cond.code ({ cls := "WaitedCommits", name := "isActive", desc := "(I)Z" } : Jvm.MethodName) prog_1_method_28_code (2 : Nat) (Option.some Jvm.ClassFile.FieldType.boolean)) ∈ wc_tb := List.mem_of_getElem? (i := 176) rfl
theorem tw_177 : (Jvm.Cond.methodLink "WaitedCommits" (102 : Nat) ({ cls := "WaitedCommits", name := "isKey", desc := "(I)Z" } : Jvm.MethodName)) ∈ wc_tb := List.mem_of_getElem? (i := 177) rfl
theorem tw_178 : (Jvm.Cond.static ({ cls := "WaitedCommits", name := "isKey", desc := "(I)Z" } : Jvm.MethodName)) ∈ wc_tb := List.mem_of_getElem? (i := 178) rfl
theorem tw_179 : (Jvm.Cond.code ({ cls := "WaitedCommits", name := "isKey", desc := "(I)Z" } : Jvm.MethodName) prog_1_method_23_code (1 : Nat) (Option.some Jvm.ClassFile.FieldType.boolean)) ∈ wc_tb := List.mem_of_getElem? (i := 179) rfl
theorem tw_180 : (Jvm.Cond.methodLink "WaitedCommits" (105 : Nat) ({ cls := "WaitedCommits", name := "lock", desc := "(LWaitedCommits$Transaction;II)Z" } : Jvm.MethodName)) ∈ wc_tb := List.mem_of_getElem? (i := 180) rfl
theorem tw_181 : (Jvm.Cond.instanceMethod ({ cls := "WaitedCommits", name := "lock", desc := "(LWaitedCommits$Transaction;II)Z" } : Jvm.MethodName)) ∈ wc_tb := List.mem_of_getElem? (i := 181) rfl
theorem tw_182 : (Jvm.Cond.code ({ cls := "WaitedCommits", name := "lock", desc := "(LWaitedCommits$Transaction;II)Z" } : Jvm.MethodName) prog_1_method_33_code (5 : Nat) (Option.some Jvm.ClassFile.FieldType.boolean)) ∈ wc_tb := List.mem_of_getElem? (i := 182) rfl
theorem tw_183 : (Jvm.Cond.methodLink "WaitedCommits" (134 : Nat) ({ cls := "WaitedCommits", name := "siteOf", desc := "(I)I" } : Jvm.MethodName)) ∈ wc_tb := List.mem_of_getElem? (i := 183) rfl
theorem tw_184 : (Jvm.Cond.static ({ cls := "WaitedCommits", name := "siteOf", desc := "(I)I" } : Jvm.MethodName)) ∈ wc_tb := List.mem_of_getElem? (i := 184) rfl
theorem tw_185 : (Jvm.Cond.code ({ cls := "WaitedCommits", name := "siteOf", desc := "(I)I" } : Jvm.MethodName) prog_1_method_25_code (1 : Nat) (Option.some Jvm.ClassFile.FieldType.int)) ∈ wc_tb := List.mem_of_getElem? (i := 185) rfl
theorem tw_186 : (Jvm.Cond.methodLink "WaitedCommits" (183 : Nat) ({ cls := "WaitedCommits", name := "conflicts", desc := "(LWaitedCommits$Transaction;LWaitedCommits$Transaction;II)Z" } : Jvm.MethodName)) ∈ wc_tb := List.mem_of_getElem? (i := 186) rfl
theorem tw_187 : (Jvm.Cond.static ({ cls := "WaitedCommits", name := "conflicts", desc := "(LWaitedCommits$Transaction;LWaitedCommits$Transaction;II)Z" } : Jvm.MethodName)) ∈ wc_tb := List.mem_of_getElem? (i := 187) rfl
theorem tw_188 : (Jvm.Cond.code ({ cls := "WaitedCommits", name := "conflicts", desc := "(LWaitedCommits$Transaction;LWaitedCommits$Transaction;II)Z" } : Jvm.MethodName) prog_1_method_34_code (4 : Nat) (Option.some Jvm.ClassFile.FieldType.boolean)) ∈ wc_tb := List.mem_of_getElem? (i := 188) rfl
theorem tw_189 : (Jvm.Cond.methodLink "WaitedCommits" (187 : Nat) ({ cls := "WaitedCommits", name := "canPushAside", desc := "(LWaitedCommits$Transaction;LWaitedCommits$Transaction;)Z" } : Jvm.MethodName)) ∈ wc_tb := List.mem_of_getElem? (i := 189) rfl
theorem tw_190 : (Jvm.Cond.static ({ cls := "WaitedCommits", name := "canPushAside", desc := "(LWaitedCommits$Transaction;LWaitedCommits$Transaction;)Z" } : Jvm.MethodName)) ∈ wc_tb := List.mem_of_getElem? (i := 190) rfl
theorem tw_191 : (Jvm.Cond.code ({ cls := "WaitedCommits", name := "canPushAside", desc := "(LWaitedCommits$Transaction;LWaitedCommits$Transaction;)Z" } : Jvm.MethodName) prog_1_method_35_code (2 : Nat) (Option.some Jvm.ClassFile.FieldType.boolean)) ∈ wc_tb := List.mem_of_getElem? (i := 191) rfl
theorem tw_192 : (Jvm.Cond.methodLinkNest "WaitedCommits" (131 : Nat) ({ cls := "WaitedCommits$Transaction", name := "giveUp", desc := "()V" } : Jvm.MethodName) "WaitedCommits") ∈ wc_tb := List.mem_of_getElem? (i := 192) rfl
theorem tw_193 : (Jvm.Cond.instanceMethod ({ cls := "WaitedCommits$Transaction", name := "giveUp", desc := "()V" } : Jvm.MethodName)) ∈ wc_tb := List.mem_of_getElem? (i := 193) rfl
theorem tw_194 : (Jvm.Cond.code ({ cls := "WaitedCommits$Transaction", name := "giveUp", desc := "()V" } : Jvm.MethodName) prog_5_method_5_code (2 : Nat) (Option.none : Option Jvm.ClassFile.FieldType)) ∈ wc_tb := List.mem_of_getElem? (i := 194) rfl
theorem tw_195 : (Jvm.Cond.methodLink "WaitedCommits$Transaction" (47 : Nat) ({ cls := "WaitedCommits$Transaction", name := "unlockAt", desc := "(I)V" } : Jvm.MethodName)) ∈ wc_tb := List.mem_of_getElem? (i := 195) rfl
theorem tw_196 : (Jvm.Cond.instanceMethod ({ cls := "WaitedCommits$Transaction", name := "unlockAt", desc := "(I)V" } : Jvm.MethodName)) ∈ wc_tb := List.mem_of_getElem? (i := 196) rfl
theorem tw_197 : (Jvm.Cond.code ({ cls := "WaitedCommits$Transaction", name := "unlockAt", desc := "(I)V" } : Jvm.MethodName) prog_5_method_4_code (3 : Nat) (Option.none : Option Jvm.ClassFile.FieldType)) ∈ wc_tb := List.mem_of_getElem? (i := 197) rfl
theorem tw_198 : (Jvm.Cond.constantLong "WaitedCommits" (109 : Nat) (1099511627776 : Int64)) ∈ wc_tb := List.mem_of_getElem? (i := 198) rfl
theorem tw_199 : (Jvm.Cond.methodLink "WaitedCommitsLaw" (46 : Nat) ({ cls := "WaitedCommits", name := "write", desc := "(III)Z" } : Jvm.MethodName)) ∈ wc_tb := List.mem_of_getElem? (i := 199) rfl
theorem tw_200 : (Jvm.Cond.instanceMethod ({ cls := "WaitedCommits", name := "write", desc := "(III)Z" } : Jvm.MethodName)) ∈ wc_tb := List.mem_of_getElem? (i := 200) rfl
theorem tw_201 : (Jvm.Cond.selects "WaitedCommits" ({ cls := "WaitedCommits", name := "write", desc := "(III)Z" } : Jvm.MethodName) ({ cls := "WaitedCommits", name := "write", desc := "(III)Z" } : Jvm.MethodName)) ∈ wc_tb := List.mem_of_getElem? (i := 201) rfl
theorem tw_202 : (Jvm.Cond.code ({ cls := "WaitedCommits", name := "write", desc := "(III)Z" } : Jvm.MethodName) prog_1_method_7_code (4 : Nat) (Option.some Jvm.ClassFile.FieldType.boolean)) ∈ wc_tb := List.mem_of_getElem? (i := 202) rfl
theorem tw_203 : (Jvm.Cond.methodLink "WaitedCommitsLaw" (50 : Nat) ({ cls := "WaitedCommits", name := "commit", desc := "(I)Z" } : Jvm.MethodName)) ∈ wc_tb := List.mem_of_getElem? (i := 203) rfl
theorem tw_204 : (Jvm.Cond.instanceMethod ({ cls := "WaitedCommits", name := "commit", desc := "(I)Z" } : Jvm.MethodName)) ∈ wc_tb := List.mem_of_getElem? (i := 204) rfl
theorem tw_205 : (Jvm.Cond.selects "WaitedCommits" ({ cls := "WaitedCommits", name := "commit", desc := "(I)Z" } : Jvm.MethodName) ({ cls := "WaitedCommits", name := "commit", desc := "(I)Z" } : Jvm.MethodName)) ∈ wc_tb := List.mem_of_getElem? (i := 205) rfl
theorem tw_206 : (Jvm.Cond.code ({ cls := "WaitedCommits", name := "commit", desc := "(I)Z" } : Jvm.MethodName) prog_1_method_8_code (3 : Nat) (Option.some Jvm.ClassFile.FieldType.boolean)) ∈ wc_tb := List.mem_of_getElem? (i := 206) rfl
theorem tw_207 : (Jvm.Cond.methodLink "WaitedCommits" (128 : Nat) ({ cls := "WaitedCommits", name := "prepare", desc := "(I)V" } : Jvm.MethodName)) ∈ wc_tb := List.mem_of_getElem? (i := 207) rfl
theorem tw_208 : (Jvm.Cond.instanceMethod ({ cls := "WaitedCommits", name := "prepare", desc := "(I)V" } : Jvm.MethodName)) ∈ wc_tb := List.mem_of_getElem? (i := 208) rfl
theorem tw_209 : (Jvm.Cond.code ({ cls := "WaitedCommits", name := "prepare", desc := "(I)V" } : Jvm.MethodName) prog_1_method_36_code (3 : Nat) (Option.none : Option Jvm.ClassFile.FieldType)) ∈ wc_tb := List.mem_of_getElem? (i := 209) rfl
theorem tw_210 : (Jvm.Cond.methodLink "WaitedCommits" (180 : Nat) ({ cls := "WaitedCommits", name := "latest", desc := "(I)I" } : Jvm.MethodName)) ∈ wc_tb := List.mem_of_getElem? (i := 210) rfl
theorem tw_211 : (Jvm.Cond.instanceMethod ({ cls := "WaitedCommits", name := "latest", desc := "(I)I" } : Jvm.MethodName)) ∈ wc_tb := List.mem_of_getElem? (i := 211) rfl
theorem tw_212 : (Jvm.Cond.code ({ cls := "WaitedCommits", name := "latest", desc := "(I)I" } : Jvm.MethodName) prog_1_method_29_code (2 : Nat) (Option.some Jvm.ClassFile.FieldType.int)) ∈ wc_tb := List.mem_of_getElem? (i := 212) rfl
theorem tw_213 : (Jvm.Cond.methodLink "WaitedCommits" (194 : Nat) ({ cls := "WaitedCommits", name := "sendToOthers", desc := "(II)I" } : Jvm.MethodName)) ∈ wc_tb := List.mem_of_getElem? (i := 213) rfl
theorem tw_214 : (Jvm.Cond.instanceMethod ({ cls := "WaitedCommits", name := "sendToOthers", desc := "(II)I" } : Jvm.MethodName)) ∈ wc_tb := List.mem_of_getElem? (i := 214) rfl
theorem tw_215 : (Jvm.Cond.code ({ cls := "WaitedCommits", name := "sendToOthers", desc := "(II)I" } : Jvm.MethodName) prog_1_method_37_code (6 : Nat) (Option.some Jvm.ClassFile.FieldType.int)) ∈ wc_tb := List.mem_of_getElem? (i := 215) rfl
theorem tw_216 : (Jvm.Cond.methodLinkNest "WaitedCommits" (204 : Nat) ({ cls := "WaitedCommits$Transaction", name := "holdsAt", desc := "(I)Z" } : Jvm.MethodName) "WaitedCommits") ∈ wc_tb := List.mem_of_getElem? (i := 216) rfl
theorem tw_217 : (Jvm.Cond.methodLink "WaitedCommits" (207 : Nat) ({ cls := "WaitedCommits", name := "send", desc := "(III)V" } : Jvm.MethodName)) ∈ wc_tb := List.mem_of_getElem? (i := 217) rfl
theorem tw_218 : (Jvm.Cond.instanceMethod ({ cls := "WaitedCommits", name := "send", desc := "(III)V" } : Jvm.MethodName)) ∈ wc_tb := List.mem_of_getElem? (i := 218) rfl
theorem tw_219 : (Jvm.Cond.code ({ cls := "WaitedCommits", name := "send", desc := "(III)V" } : Jvm.MethodName) prog_1_method_38_code (6 : Nat) (Option.none : Option Jvm.ClassFile.FieldType)) ∈ wc_tb := List.mem_of_getElem? (i := 219) rfl
theorem tw_220 : (Jvm.Cond.methodLink "WaitedCommits" (200 : Nat) ({ cls := "WaitedCommits", name := "chooseStamp", desc := "(LWaitedCommits$Transaction;)V" } : Jvm.MethodName)) ∈ wc_tb := List.mem_of_getElem? (i := 220) rfl
theorem tw_221 : (Jvm.Cond.instanceMethod ({ cls := "WaitedCommits", name := "chooseStamp", desc := "(LWaitedCommits$Transaction;)V" } : Jvm.MethodName)) ∈ wc_tb := List.mem_of_getElem? (i := 221) rfl
theorem tw_222 : (Jvm.Cond.code ({ cls := "WaitedCommits", name := "chooseStamp", desc := "(LWaitedCommits$Transaction;)V" } : Jvm.MethodName) prog_1_method_45_code (3 : Nat) (Option.none : Option Jvm.ClassFile.FieldType)) ∈ wc_tb := List.mem_of_getElem? (i := 222) rfl
theorem tw_223 : (Jvm.Cond.methodLinkNest "WaitedCommits" (254 : Nat) ({ cls := "WaitedCommits$Transaction", name := "greatestMark", desc := "()I" } : Jvm.MethodName) "WaitedCommits") ∈ wc_tb := List.mem_of_getElem? (i := 223) rfl
theorem tw_224 : (Jvm.Cond.instanceMethod ({ cls := "WaitedCommits$Transaction", name := "greatestMark", desc := "()I" } : Jvm.MethodName)) ∈ wc_tb := List.mem_of_getElem? (i := 224) rfl
theorem tw_225 : (Jvm.Cond.code ({ cls := "WaitedCommits$Transaction", name := "greatestMark", desc := "()I" } : Jvm.MethodName) prog_5_method_6_code (3 : Nat) (Option.some Jvm.ClassFile.FieldType.int)) ∈ wc_tb := List.mem_of_getElem? (i := 225) rfl
theorem tw_226 : (Jvm.Cond.methodLink "WaitedCommits$Transaction" (51 : Nat) ({ cls := "java/lang/Math", name := "max", desc := "(II)I" } : Jvm.MethodName)) ∈ wc_tb := List.mem_of_getElem? (i := 226) rfl
theorem tw_227 : (Jvm.Cond.methodLink "WaitedCommitsLaw" (54 : Nat) ({ cls := "WaitedCommits", name := "abort", desc := "(I)Z" } : Jvm.MethodName)) ∈ wc_tb := List.mem_of_getElem? (i := 227) rfl
theorem tw_228 : (Jvm.Cond.instanceMethod ({ cls := "WaitedCommits", name := "abort", desc := "(I)Z" } : Jvm.MethodName)) ∈ wc_tb := List.mem_of_getElem? (i := 228) rfl
theorem tw_229 : (Jvm.Cond.selects "WaitedCommits" ({ cls := "WaitedCommits", name := "abort", desc := "(I)Z" } : Jvm.MethodName) ({ cls := "WaitedCommits", name := "abort", desc := "(I)Z" } : Jvm.MethodName)) ∈ wc_tb := List.mem_of_getElem? (i := 229) rfl
theorem tw_230 : (Jvm.Cond.code ({ cls := "WaitedCommits", name := "abort", desc := "(I)Z" } : Jvm.MethodName) prog_1_method_9_code (2 : Nat) (Option.some Jvm.ClassFile.FieldType.boolean)) ∈ wc_tb := List.mem_of_getElem? (i := 230) rfl
theorem tw_231 : (Jvm.Cond.methodLink "WaitedCommitsLaw" (58 : Nat) ({ cls := "WaitedCommits", name := "readAt", desc := "(II)J" } : Jvm.MethodName)) ∈ wc_tb := List.mem_of_getElem? (i := 231) rfl
theorem tw_232 : (Jvm.Cond.instanceMethod ({ cls := "WaitedCommits", name := "readAt", desc := "(II)J" } : Jvm.MethodName)) ∈ wc_tb := List.mem_of_getElem? (i := 232) rfl
theorem tw_233 : (Jvm.Cond.selects "WaitedCommits" ({ cls := "WaitedCommits", name := "readAt", desc := "(II)J" } : Jvm.MethodName) ({ cls := "WaitedCommits", name := "readAt", desc := "(II)J" } : Jvm.MethodName)) ∈ wc_tb := List.mem_of_getElem? (i := 233) rfl
theorem tw_234 : (Jvm.Cond.code ({ cls := "WaitedCommits", name := "readAt", desc := "(II)J" } : Jvm.MethodName) prog_1_method_10_code (3 : Nat) (Option.some Jvm.ClassFile.FieldType.long)) ∈ wc_tb := List.mem_of_getElem? (i := 234) rfl
theorem tw_235 : (Jvm.Cond.methodLink "WaitedCommits" (138 : Nat) ({ cls := "WaitedCommits", name := "greatestReadyTime", desc := "(I)I" } : Jvm.MethodName)) ∈ wc_tb := List.mem_of_getElem? (i := 235) rfl
theorem tw_236 : (Jvm.Cond.instanceMethod ({ cls := "WaitedCommits", name := "greatestReadyTime", desc := "(I)I" } : Jvm.MethodName)) ∈ wc_tb := List.mem_of_getElem? (i := 236) rfl
theorem tw_237 : (Jvm.Cond.code ({ cls := "WaitedCommits", name := "greatestReadyTime", desc := "(I)I" } : Jvm.MethodName) prog_1_method_32_code (2 : Nat) (Option.some Jvm.ClassFile.FieldType.int)) ∈ wc_tb := List.mem_of_getElem? (i := 237) rfl
theorem tw_238 : (Jvm.Cond.methodLink "WaitedCommits" (165 : Nat) ({ cls := "WaitedCommits", name := "leastMark", desc := "(I)I" } : Jvm.MethodName)) ∈ wc_tb := List.mem_of_getElem? (i := 238) rfl
theorem tw_239 : (Jvm.Cond.instanceMethod ({ cls := "WaitedCommits", name := "leastMark", desc := "(I)I" } : Jvm.MethodName)) ∈ wc_tb := List.mem_of_getElem? (i := 239) rfl
theorem tw_240 : (Jvm.Cond.code ({ cls := "WaitedCommits", name := "leastMark", desc := "(I)I" } : Jvm.MethodName) prog_1_method_31_code (4 : Nat) (Option.some Jvm.ClassFile.FieldType.int)) ∈ wc_tb := List.mem_of_getElem? (i := 240) rfl
theorem tw_241 : (Jvm.Cond.constant "WaitedCommits" (179 : Nat) (2147483647 : Int32)) ∈ wc_tb := List.mem_of_getElem? (i := 241) rfl
theorem tw_242 : (Jvm.Cond.methodLinkNest "WaitedCommits" (141 : Nat) ({ cls := "WaitedCommits$Site", name := "raiseBound", desc := "(I)V" } : Jvm.MethodName) "WaitedCommits") ∈ wc_tb := List.mem_of_getElem? (i := 242) rfl
theorem tw_243 : (Jvm.Cond.instanceMethod ({ cls := "WaitedCommits$Site", name := "raiseBound", desc := "(I)V" } : Jvm.MethodName)) ∈ wc_tb := List.mem_of_getElem? (i := 243) rfl
theorem tw_244 : (Jvm.Cond.code ({ cls := "WaitedCommits$Site", name := "raiseBound", desc := "(I)V" } : Jvm.MethodName) prog_4_method_2_code (2 : Nat) (Option.none : Option Jvm.ClassFile.FieldType)) ∈ wc_tb := List.mem_of_getElem? (i := 244) rfl
theorem tw_245 : (Jvm.Cond.methodLink "WaitedCommits$Site" (26 : Nat) ({ cls := "java/lang/Math", name := "max", desc := "(II)I" } : Jvm.MethodName)) ∈ wc_tb := List.mem_of_getElem? (i := 245) rfl
theorem tw_246 : (Jvm.Cond.methodLinkNest "WaitedCommits" (144 : Nat) ({ cls := "WaitedCommits$Key", name := "valueAt", desc := "(I)J" } : Jvm.MethodName) "WaitedCommits") ∈ wc_tb := List.mem_of_getElem? (i := 246) rfl
theorem tw_247 : (Jvm.Cond.instanceMethod ({ cls := "WaitedCommits$Key", name := "valueAt", desc := "(I)J" } : Jvm.MethodName)) ∈ wc_tb := List.mem_of_getElem? (i := 247) rfl
theorem tw_248 : (Jvm.Cond.code ({ cls := "WaitedCommits$Key", name := "valueAt", desc := "(I)J" } : Jvm.MethodName) prog_2_method_3_code (3 : Nat) (Option.some Jvm.ClassFile.FieldType.long)) ∈ wc_tb := List.mem_of_getElem? (i := 248) rfl
theorem tw_249 : (Jvm.Cond.constantLong "WaitedCommits$Key" (28 : Nat) (2199023255552 : Int64)) ∈ wc_tb := List.mem_of_getElem? (i := 249) rfl
theorem tw_250 : (Jvm.Cond.methodLink "WaitedCommitsLaw" (62 : Nat) ({ cls := "WaitedCommits", name := "step", desc := "(I)I" } : Jvm.MethodName)) ∈ wc_tb := List.mem_of_getElem? (i := 250) rfl
theorem tw_251 : (Jvm.Cond.instanceMethod ({ cls := "WaitedCommits", name := "step", desc := "(I)I" } : Jvm.MethodName)) ∈ wc_tb := List.mem_of_getElem? (i := 251) rfl
theorem tw_252 : (Jvm.Cond.selects "WaitedCommits" ({ cls := "WaitedCommits", name := "step", desc := "(I)I" } : Jvm.MethodName) ({ cls := "WaitedCommits", name := "step", desc := "(I)I" } : Jvm.MethodName)) ∈ wc_tb := List.mem_of_getElem? (i := 252) rfl
theorem tw_253 : (Jvm.Cond.code ({ cls := "WaitedCommits", name := "step", desc := "(I)I" } : Jvm.MethodName) prog_1_method_11_code (4 : Nat) (Option.some Jvm.ClassFile.FieldType.int)) ∈ wc_tb := List.mem_of_getElem? (i := 253) rfl
theorem tw_254 : (Jvm.Cond.methodLink "WaitedCommits" (148 : Nat) ({ cls := "WaitedCommits", name := "deliverMessages", desc := "()V" } : Jvm.MethodName)) ∈ wc_tb := List.mem_of_getElem? (i := 254) rfl
theorem tw_255 : (Jvm.Cond.instanceMethod ({ cls := "WaitedCommits", name := "deliverMessages", desc := "()V" } : Jvm.MethodName)) ∈ wc_tb := List.mem_of_getElem? (i := 255) rfl
theorem tw_256 : (Jvm.Cond.code ({ cls := "WaitedCommits", name := "deliverMessages", desc := "()V" } : Jvm.MethodName) prog_1_method_39_code (3 : Nat) (Option.none : Option Jvm.ClassFile.FieldType)) ∈ wc_tb := List.mem_of_getElem? (i := 256) rfl
theorem tw_257 : (Jvm.Cond.methodLink "WaitedCommits" (223 : Nat) ({ cls := "WaitedCommits", name := "firstDue", desc := "()LWaitedCommits$Message;" } : Jvm.MethodName)) ∈ wc_tb := List.mem_of_getElem? (i := 257) rfl
theorem tw_258 : (Jvm.Cond.instanceMethod ({ cls := "WaitedCommits", name := "firstDue", desc := "()LWaitedCommits$Message;" } : Jvm.MethodName)) ∈ wc_tb := List.mem_of_getElem? (i := 258) rfl
theorem tw_259 : (Jvm.Cond.code ({ cls := "WaitedCommits", name := "firstDue", desc := "()LWaitedCommits$Message;" } : Jvm.MethodName) prog_1_method_40_code (3 : Nat) (Option.some (Jvm.ClassFile.FieldType.object "WaitedCommits$Message"))) ∈ wc_tb := List.mem_of_getElem? (i := 259) rfl
theorem tw_260 : (Jvm.Cond.methodLink "WaitedCommits" (231 : Nat) ({ cls := "WaitedCommits", name := "isDue", desc := "(LWaitedCommits$Message;)Z" } : Jvm.MethodName)) ∈ wc_tb := List.mem_of_getElem? (i := 260) rfl
theorem tw_261 : (Jvm.Cond.instanceMethod ({ cls := "WaitedCommits", name := "isDue", desc := "(LWaitedCommits$Message;)Z" } : Jvm.MethodName)) ∈ wc_tb := List.mem_of_getElem? (i := 261) rfl
theorem tw_262 : (Jvm.Cond.code ({ cls := "WaitedCommits", name := "isDue", desc := "(LWaitedCommits$Message;)Z" } : Jvm.MethodName) prog_1_method_41_code (2 : Nat) (Option.some Jvm.ClassFile.FieldType.boolean)) ∈ wc_tb := List.mem_of_getElem? (i := 262) rfl
theorem tw_263 : (Jvm.Cond.methodLinkNest "WaitedCommits" (235 : Nat) ({ cls := "WaitedCommits$Message", name := "comesBefore", desc := "(LWaitedCommits$Message;)Z" } : Jvm.MethodName) "WaitedCommits") ∈ wc_tb := List.mem_of_getElem? (i := 263) rfl
theorem tw_264 : (Jvm.Cond.instanceMethod ({ cls := "WaitedCommits$Message", name := "comesBefore", desc := "(LWaitedCommits$Message;)Z" } : Jvm.MethodName)) ∈ wc_tb := List.mem_of_getElem? (i := 264) rfl
theorem tw_265 : (Jvm.Cond.code ({ cls := "WaitedCommits$Message", name := "comesBefore", desc := "(LWaitedCommits$Message;)Z" } : Jvm.MethodName) prog_3_method_2_code (2 : Nat) (Option.some Jvm.ClassFile.FieldType.boolean)) ∈ wc_tb := List.mem_of_getElem? (i := 265) rfl
theorem tw_266 : (Jvm.Cond.methodLink "WaitedCommits" (227 : Nat) ({ cls := "WaitedCommits", name := "dealWith", desc := "(LWaitedCommits$Message;)V" } : Jvm.MethodName)) ∈ wc_tb := List.mem_of_getElem? (i := 266) rfl
theorem tw_267 : (Jvm.Cond.instanceMethod ({ cls := "WaitedCommits", name := "dealWith", desc := "(LWaitedCommits$Message;)V" } : Jvm.MethodName)) ∈ wc_tb := List.mem_of_getElem? (i := 267) rfl
theorem tw_268 : (Jvm.Cond.code ({ cls := "WaitedCommits", name := "dealWith", desc := "(LWaitedCommits$Message;)V" } : Jvm.MethodName) prog_1_method_42_code (3 : Nat) (Option.none : Option Jvm.ClassFile.FieldType)) ∈ wc_tb := List.mem_of_getElem? (i := 268) rfl
theorem tw_269 : (Jvm.Cond.methodLink "WaitedCommits" (244 : Nat) ({ cls := "WaitedCommits", name := "takePrepare", desc := "(II)V" } : Jvm.MethodName)) ∈ wc_tb := List.mem_of_getElem? (i := 269) rfl
theorem tw_270 : (Jvm.Cond.instanceMethod ({ cls := "WaitedCommits", name := "takePrepare", desc := "(II)V" } : Jvm.MethodName)) ∈ wc_tb := List.mem_of_getElem? (i := 270) rfl
theorem tw_271 : (Jvm.Cond.code ({ cls := "WaitedCommits", name := "takePrepare", desc := "(II)V" } : Jvm.MethodName) prog_1_method_43_code (4 : Nat) (Option.none : Option Jvm.ClassFile.FieldType)) ∈ wc_tb := List.mem_of_getElem? (i := 271) rfl
theorem tw_272 : (Jvm.Cond.methodLink "WaitedCommits" (247 : Nat) ({ cls := "WaitedCommits", name := "takePrepared", desc := "(LWaitedCommits$Transaction;)V" } : Jvm.MethodName)) ∈ wc_tb := List.mem_of_getElem? (i := 272) rfl
theorem tw_273 : (Jvm.Cond.instanceMethod ({ cls := "WaitedCommits", name := "takePrepared", desc := "(LWaitedCommits$Transaction;)V" } : Jvm.MethodName)) ∈ wc_tb := List.mem_of_getElem? (i := 273) rfl
theorem tw_274 : (Jvm.Cond.code ({ cls := "WaitedCommits", name := "takePrepared", desc := "(LWaitedCommits$Transaction;)V" } : Jvm.MethodName) prog_1_method_44_code (2 : Nat) (Option.none : Option Jvm.ClassFile.FieldType)) ∈ wc_tb := List.mem_of_getElem? (i := 274) rfl
theorem tw_275 : (Jvm.Cond.methodLink "WaitedCommits" (250 : Nat) ({ cls := "WaitedCommits", name := "finishAt", desc := "(LWaitedCommits$Transaction;I)V" } : Jvm.MethodName)) ∈ wc_tb := List.mem_of_getElem? (i := 275) rfl
theorem tw_276 : (Jvm.Cond.instanceMethod ({ cls := "WaitedCommits", name := "finishAt", desc := "(LWaitedCommits$Transaction;I)V" } : Jvm.MethodName)) ∈ wc_tb := List.mem_of_getElem? (i := 276) rfl
theorem tw_277 : (Jvm.Cond.code ({ cls := "WaitedCommits", name := "finishAt", desc := "(LWaitedCommits$Transaction;I)V" } : Jvm.MethodName) prog_1_method_49_code (4 : Nat) (Option.none : Option Jvm.ClassFile.FieldType)) ∈ wc_tb := List.mem_of_getElem? (i := 277) rfl
theorem tw_278 : (Jvm.Cond.methodLinkNest "WaitedCommits" (266 : Nat) ({ cls := "WaitedCommits$Key", name := "add", desc := "(II)V" } : Jvm.MethodName) "WaitedCommits") ∈ wc_tb := List.mem_of_getElem? (i := 278) rfl
theorem tw_279 : (Jvm.Cond.instanceMethod ({ cls := "WaitedCommits$Key", name := "add", desc := "(II)V" } : Jvm.MethodName)) ∈ wc_tb := List.mem_of_getElem? (i := 279) rfl
theorem tw_280 : (Jvm.Cond.code ({ cls := "WaitedCommits$Key", name := "add", desc := "(II)V" } : Jvm.MethodName) prog_2_method_2_code (4 : Nat) (Option.none : Option Jvm.ClassFile.FieldType)) ∈ wc_tb := List.mem_of_getElem? (i := 280) rfl
theorem tw_281 : (Jvm.Cond.methodLink "WaitedCommits$Key" (22 : Nat) ({ cls := "java/lang/Math", name := "min", desc := "(II)I" } : Jvm.MethodName)) ∈ wc_tb := List.mem_of_getElem? (i := 281) rfl
theorem tw_282 : (Jvm.Cond.methodLinkNest "WaitedCommits" (269 : Nat) ({ cls := "WaitedCommits$Transaction", name := "unlockAt", desc := "(I)V" } : Jvm.MethodName) "WaitedCommits") ∈ wc_tb := List.mem_of_getElem? (i := 282) rfl
theorem tw_283 : (Jvm.Cond.methodLink "WaitedCommits" (151 : Nat) ({ cls := "WaitedCommits", name := "endWaiting", desc := "()I" } : Jvm.MethodName)) ∈ wc_tb := List.mem_of_getElem? (i := 283) rfl
theorem tw_284 : (Jvm.Cond.instanceMethod ({ cls := "WaitedCommits", name := "endWaiting", desc := "()I" } : Jvm.MethodName)) ∈ wc_tb := List.mem_of_getElem? (i := 284) rfl
theorem tw_285 : (Jvm.Cond.code ({ cls := "WaitedCommits", name := "endWaiting", desc := "()I" } : Jvm.MethodName) prog_1_method_46_code (3 : Nat) (Option.some Jvm.ClassFile.FieldType.int)) ∈ wc_tb := List.mem_of_getElem? (i := 285) rfl
theorem tw_286 : (Jvm.Cond.methodLink "WaitedCommits" (257 : Nat) ({ cls := "WaitedCommits", name := "mayEnd", desc := "(LWaitedCommits$Transaction;)Z" } : Jvm.MethodName)) ∈ wc_tb := List.mem_of_getElem? (i := 286) rfl
theorem tw_287 : (Jvm.Cond.instanceMethod ({ cls := "WaitedCommits", name := "mayEnd", desc := "(LWaitedCommits$Transaction;)Z" } : Jvm.MethodName)) ∈ wc_tb := List.mem_of_getElem? (i := 287) rfl
theorem tw_288 : (Jvm.Cond.code ({ cls := "WaitedCommits", name := "mayEnd", desc := "(LWaitedCommits$Transaction;)Z" } : Jvm.MethodName) prog_1_method_47_code (2 : Nat) (Option.some Jvm.ClassFile.FieldType.boolean)) ∈ wc_tb := List.mem_of_getElem? (i := 288) rfl
theorem tw_289 : (Jvm.Cond.methodLink "WaitedCommits" (263 : Nat) ({ cls := "WaitedCommits", name := "earliest", desc := "(I)I" } : Jvm.MethodName)) ∈ wc_tb := List.mem_of_getElem? (i := 289) rfl
theorem tw_290 : (Jvm.Cond.instanceMethod ({ cls := "WaitedCommits", name := "earliest", desc := "(I)I" } : Jvm.MethodName)) ∈ wc_tb := List.mem_of_getElem? (i := 290) rfl
theorem tw_291 : (Jvm.Cond.code ({ cls := "WaitedCommits", name := "earliest", desc := "(I)I" } : Jvm.MethodName) prog_1_method_30_code (2 : Nat) (Option.some Jvm.ClassFile.FieldType.int)) ∈ wc_tb := List.mem_of_getElem? (i := 291) rfl
theorem tw_292 : (Jvm.Cond.methodLink "WaitedCommits" (260 : Nat) ({ cls := "WaitedCommits", name := "endOne", desc := "(I)V" } : Jvm.MethodName)) ∈ wc_tb := List.mem_of_getElem? (i := 292) rfl
theorem tw_293 : (Jvm.Cond.instanceMethod ({ cls := "WaitedCommits", name := "endOne", desc := "(I)V" } : Jvm.MethodName)) ∈ wc_tb := List.mem_of_getElem? (i := 293) rfl
theorem tw_294 : (Jvm.Cond.code ({ cls := "WaitedCommits", name := "endOne", desc := "(I)V" } : Jvm.MethodName) prog_1_method_48_code (3 : Nat) (Option.none : Option Jvm.ClassFile.FieldType)) ∈ wc_tb := List.mem_of_getElem? (i := 294) rfl
theorem tw_295 : (Jvm.Cond.methodLink "WaitedCommitsLaw" (67 : Nat) ({ cls := "WaitedCommits", name := "now", desc := "()I" } : Jvm.MethodName)) ∈ wc_tb := List.mem_of_getElem? (i := 295) rfl
theorem tw_296 : (Jvm.Cond.instanceMethod ({ cls := "WaitedCommits", name := "now", desc := "()I" } : Jvm.MethodName)) ∈ wc_tb := List.mem_of_getElem? (i := 296) rfl
theorem tw_297 : (Jvm.Cond.selects "WaitedCommits" ({ cls := "WaitedCommits", name := "now", desc := "()I" } : Jvm.MethodName) ({ cls := "WaitedCommits", name := "now", desc := "()I" } : Jvm.MethodName)) ∈ wc_tb := List.mem_of_getElem? (i := 297) rfl
theorem tw_298 : (Jvm.Cond.code ({ cls := "WaitedCommits", name := "now", desc := "()I" } : Jvm.MethodName) prog_1_method_12_code (1 : Nat) (Option.some Jvm.ClassFile.FieldType.int)) ∈ wc_tb := List.mem_of_getElem? (i := 298) rfl
theorem tw_299 : (Jvm.Cond.methodLink "WaitedCommitsLaw" (72 : Nat) ({ cls := "WaitedCommits", name := "state", desc := "(I)I" } : Jvm.MethodName)) ∈ wc_tb := List.mem_of_getElem? (i := 299) rfl
theorem tw_300 : (Jvm.Cond.instanceMethod ({ cls := "WaitedCommits", name := "state", desc := "(I)I" } : Jvm.MethodName)) ∈ wc_tb := List.mem_of_getElem? (i := 300) rfl
theorem tw_301 : (Jvm.Cond.selects "WaitedCommits" ({ cls := "WaitedCommits", name := "state", desc := "(I)I" } : Jvm.MethodName) ({ cls := "WaitedCommits", name := "state", desc := "(I)I" } : Jvm.MethodName)) ∈ wc_tb := List.mem_of_getElem? (i := 301) rfl
theorem tw_302 : (Jvm.Cond.code ({ cls := "WaitedCommits", name := "state", desc := "(I)I" } : Jvm.MethodName) prog_1_method_13_code (2 : Nat) (Option.some Jvm.ClassFile.FieldType.int)) ∈ wc_tb := List.mem_of_getElem? (i := 302) rfl
theorem tw_303 : (Jvm.Cond.methodLink "WaitedCommitsLaw" (76 : Nat) ({ cls := "WaitedCommits", name := "stamp", desc := "(I)I" } : Jvm.MethodName)) ∈ wc_tb := List.mem_of_getElem? (i := 303) rfl
theorem tw_304 : (Jvm.Cond.instanceMethod ({ cls := "WaitedCommits", name := "stamp", desc := "(I)I" } : Jvm.MethodName)) ∈ wc_tb := List.mem_of_getElem? (i := 304) rfl
theorem tw_305 : (Jvm.Cond.selects "WaitedCommits" ({ cls := "WaitedCommits", name := "stamp", desc := "(I)I" } : Jvm.MethodName) ({ cls := "WaitedCommits", name := "stamp", desc := "(I)I" } : Jvm.MethodName)) ∈ wc_tb := List.mem_of_getElem? (i := 305) rfl
theorem tw_306 : (Jvm.Cond.code ({ cls := "WaitedCommits", name := "stamp", desc := "(I)I" } : Jvm.MethodName) prog_1_method_14_code (3 : Nat) (Option.some Jvm.ClassFile.FieldType.int)) ∈ wc_tb := List.mem_of_getElem? (i := 306) rfl
theorem tw_307 : (Jvm.Cond.methodLink "WaitedCommits" (154 : Nat) ({ cls := "WaitedCommits", name := "state", desc := "(I)I" } : Jvm.MethodName)) ∈ wc_tb := List.mem_of_getElem? (i := 307) rfl
theorem tw_308 : (Jvm.Cond.methodLink "WaitedCommitsLaw" (80 : Nat) ({ cls := "WaitedCommits", name := "end", desc := "(I)I" } : Jvm.MethodName)) ∈ wc_tb := List.mem_of_getElem? (i := 308) rfl
theorem tw_309 : (Jvm.Cond.instanceMethod ({ cls := "WaitedCommits", name := "end", desc := "(I)I" } : Jvm.MethodName)) ∈ wc_tb := List.mem_of_getElem? (i := 309) rfl
theorem tw_310 : (Jvm.Cond.selects "WaitedCommits" ({ cls := "WaitedCommits", name := "end", desc := "(I)I" } : Jvm.MethodName) ({ cls := "WaitedCommits", name := "end", desc := "(I)I" } : Jvm.MethodName)) ∈ wc_tb := List.mem_of_getElem? (i := 310) rfl
theorem tw_311 : (Jvm.Cond.code ({ cls := "WaitedCommits", name := "end", desc := "(I)I" } : Jvm.MethodName) prog_1_method_15_code (2 : Nat) (Option.some Jvm.ClassFile.FieldType.int)) ∈ wc_tb := List.mem_of_getElem? (i := 311) rfl
theorem tw_312 : (Jvm.Cond.methodLink "WaitedCommitsLaw" (84 : Nat) ({ cls := "WaitedCommits", name := "marks", desc := "(I)I" } : Jvm.MethodName)) ∈ wc_tb := List.mem_of_getElem? (i := 312) rfl
theorem tw_313 : (Jvm.Cond.instanceMethod ({ cls := "WaitedCommits", name := "marks", desc := "(I)I" } : Jvm.MethodName)) ∈ wc_tb := List.mem_of_getElem? (i := 313) rfl
theorem tw_314 : (Jvm.Cond.selects "WaitedCommits" ({ cls := "WaitedCommits", name := "marks", desc := "(I)I" } : Jvm.MethodName) ({ cls := "WaitedCommits", name := "marks", desc := "(I)I" } : Jvm.MethodName)) ∈ wc_tb := List.mem_of_getElem? (i := 314) rfl
theorem tw_315 : (Jvm.Cond.code ({ cls := "WaitedCommits", name := "marks", desc := "(I)I" } : Jvm.MethodName) prog_1_method_16_code (4 : Nat) (Option.some Jvm.ClassFile.FieldType.int)) ∈ wc_tb := List.mem_of_getElem? (i := 315) rfl
theorem tw_316 : (Jvm.Cond.methodLink "WaitedCommitsLaw" (88 : Nat) ({ cls := "WaitedCommits", name := "safe", desc := "(I)I" } : Jvm.MethodName)) ∈ wc_tb := List.mem_of_getElem? (i := 316) rfl
theorem tw_317 : (Jvm.Cond.instanceMethod ({ cls := "WaitedCommits", name := "safe", desc := "(I)I" } : Jvm.MethodName)) ∈ wc_tb := List.mem_of_getElem? (i := 317) rfl
theorem tw_318 : (Jvm.Cond.selects "WaitedCommits" ({ cls := "WaitedCommits", name := "safe", desc := "(I)I" } : Jvm.MethodName) ({ cls := "WaitedCommits", name := "safe", desc := "(I)I" } : Jvm.MethodName)) ∈ wc_tb := List.mem_of_getElem? (i := 318) rfl
theorem tw_319 : (Jvm.Cond.code ({ cls := "WaitedCommits", name := "safe", desc := "(I)I" } : Jvm.MethodName) prog_1_method_17_code (2 : Nat) (Option.some Jvm.ClassFile.FieldType.int)) ∈ wc_tb := List.mem_of_getElem? (i := 319) rfl
theorem tw_320 : (Jvm.Cond.methodLink "WaitedCommitsLaw" (92 : Nat) ({ cls := "WaitedCommits", name := "bound", desc := "(I)I" } : Jvm.MethodName)) ∈ wc_tb := List.mem_of_getElem? (i := 320) rfl
theorem tw_321 : (Jvm.Cond.instanceMethod ({ cls := "WaitedCommits", name := "bound", desc := "(I)I" } : Jvm.MethodName)) ∈ wc_tb := List.mem_of_getElem? (i := 321) rfl
theorem tw_322 : (Jvm.Cond.selects "WaitedCommits" ({ cls := "WaitedCommits", name := "bound", desc := "(I)I" } : Jvm.MethodName) ({ cls := "WaitedCommits", name := "bound", desc := "(I)I" } : Jvm.MethodName)) ∈ wc_tb := List.mem_of_getElem? (i := 322) rfl
theorem tw_323 : (Jvm.Cond.code ({ cls := "WaitedCommits", name := "bound", desc := "(I)I" } : Jvm.MethodName) prog_1_method_18_code (2 : Nat) (Option.some Jvm.ClassFile.FieldType.int)) ∈ wc_tb := List.mem_of_getElem? (i := 323) rfl
theorem tw_324 : (Jvm.Cond.methodLink "WaitedCommitsLaw" (96 : Nat) ({ cls := "WaitedCommits", name := "holders", desc := "(I)I" } : Jvm.MethodName)) ∈ wc_tb := List.mem_of_getElem? (i := 324) rfl
theorem tw_325 : (Jvm.Cond.instanceMethod ({ cls := "WaitedCommits", name := "holders", desc := "(I)I" } : Jvm.MethodName)) ∈ wc_tb := List.mem_of_getElem? (i := 325) rfl
theorem tw_326 : (Jvm.Cond.selects "WaitedCommits" ({ cls := "WaitedCommits", name := "holders", desc := "(I)I" } : Jvm.MethodName) ({ cls := "WaitedCommits", name := "holders", desc := "(I)I" } : Jvm.MethodName)) ∈ wc_tb := List.mem_of_getElem? (i := 326) rfl
theorem tw_327 : (Jvm.Cond.code ({ cls := "WaitedCommits", name := "holders", desc := "(I)I" } : Jvm.MethodName) prog_1_method_19_code (4 : Nat) (Option.some Jvm.ClassFile.FieldType.int)) ∈ wc_tb := List.mem_of_getElem? (i := 327) rfl
theorem tw_328 : (Jvm.Cond.methodLink "WaitedCommitsLaw" (100 : Nat) ({ cls := "WaitedCommits", name := "version", desc := "(II)I" } : Jvm.MethodName)) ∈ wc_tb := List.mem_of_getElem? (i := 328) rfl
theorem tw_329 : (Jvm.Cond.instanceMethod ({ cls := "WaitedCommits", name := "version", desc := "(II)I" } : Jvm.MethodName)) ∈ wc_tb := List.mem_of_getElem? (i := 329) rfl
theorem tw_330 : (Jvm.Cond.selects "WaitedCommits" ({ cls := "WaitedCommits", name := "version", desc := "(II)I" } : Jvm.MethodName) ({ cls := "WaitedCommits", name := "version", desc := "(II)I" } : Jvm.MethodName)) ∈ wc_tb := List.mem_of_getElem? (i := 330) rfl
theorem tw_331 : (Jvm.Cond.code ({ cls := "WaitedCommits", name := "version", desc := "(II)I" } : Jvm.MethodName) prog_1_method_20_code (3 : Nat) (Option.some Jvm.ClassFile.FieldType.int)) ∈ wc_tb := List.mem_of_getElem? (i := 331) rfl
theorem tw_332 : (Jvm.Cond.methodLink "WaitedCommitsLaw" (105 : Nat) ({ cls := "WaitedCommits", name := "messages", desc := "()I" } : Jvm.MethodName)) ∈ wc_tb := List.mem_of_getElem? (i := 332) rfl
theorem tw_333 : (Jvm.Cond.instanceMethod ({ cls := "WaitedCommits", name := "messages", desc := "()I" } : Jvm.MethodName)) ∈ wc_tb := List.mem_of_getElem? (i := 333) rfl
theorem tw_334 : (Jvm.Cond.selects "WaitedCommits" ({ cls := "WaitedCommits", name := "messages", desc := "()I" } : Jvm.MethodName) ({ cls := "WaitedCommits", name := "messages", desc := "()I" } : Jvm.MethodName)) ∈ wc_tb := List.mem_of_getElem? (i := 334) rfl
theorem tw_335 : (Jvm.Cond.code ({ cls := "WaitedCommits", name := "messages", desc := "()I" } : Jvm.MethodName) prog_1_method_21_code (1 : Nat) (Option.some Jvm.ClassFile.FieldType.int)) ∈ wc_tb := List.mem_of_getElem? (i := 335) rfl
theorem tw_336 : (Jvm.Cond.methodLink "WaitedCommitsLaw" (9 : Nat) ({ cls := "WaitedCommitsLaw", name := "cell", desc := "([II)I" } : Jvm.MethodName)) ∈ wc_tb := List.mem_of_getElem? (i := 336) rfl
theorem tw_337 : (Jvm.Cond.static ({ cls := "WaitedCommitsLaw", name := "cell", desc := "([II)I" } : Jvm.MethodName)) ∈ wc_tb := List.mem_of_getElem? (i := 337) rfl
theorem tw_338 : (Jvm.Cond.code ({ cls := "WaitedCommitsLaw", name := "cell", desc := "([II)I" } : Jvm.MethodName) method_2_code (2 : Nat) (Option.some Jvm.ClassFile.FieldType.int)) ∈ wc_tb := List.mem_of_getElem? (i := 338) rfl
theorem tw_339 : (Jvm.Cond.classLink "WaitedCommitsLaw" (18 : Nat) "WaitedCommitsModel") ∈ wc_tb := List.mem_of_getElem? (i := 339) rfl
theorem tw_340 : (Jvm.Cond.instantiable "WaitedCommitsModel" (25 : Nat)) ∈ wc_tb := List.mem_of_getElem? (i := 340) rfl
theorem tw_341 : (Jvm.Cond.methodLink "WaitedCommitsLaw" (20 : Nat) ({ cls := "WaitedCommitsModel", name := "<init>", desc := "(I)V" } : Jvm.MethodName)) ∈ wc_tb := List.mem_of_getElem? (i := 341) rfl
theorem tw_342 : (Jvm.Cond.instanceMethod ({ cls := "WaitedCommitsModel", name := "<init>", desc := "(I)V" } : Jvm.MethodName)) ∈ wc_tb := List.mem_of_getElem? (i := 342) rfl
theorem tw_343 : (Jvm.Cond.code ({ cls := "WaitedCommitsModel", name := "<init>", desc := "(I)V" } : Jvm.MethodName) prog_7_method_1_code (3 : Nat) (Option.none : Option Jvm.ClassFile.FieldType)) ∈ wc_tb := List.mem_of_getElem? (i := 343) rfl
theorem tw_344 : (Jvm.Cond.methodLink "WaitedCommitsModel" (1 : Nat) ({ cls := "java/lang/Object", name := "<init>", desc := "()V" } : Jvm.MethodName)) ∈ wc_tb := List.mem_of_getElem? (i := 344) rfl
theorem tw_345 : (Jvm.Cond.fieldLink "WaitedCommitsModel" (71 : Nat) "WaitedCommitsModel" "e" "I") ∈ wc_tb := List.mem_of_getElem? (i := 345) rfl
theorem tw_346 : (Jvm.Cond.fieldLink "WaitedCommitsModel" (114 : Nat) "WaitedCommitsModel" "now" "I") ∈ wc_tb := List.mem_of_getElem? (i := 346) rfl
theorem tw_347 : (Jvm.Cond.fieldLink "WaitedCommitsModel" (7 : Nat) "WaitedCommitsModel" "early" "[I") ∈ wc_tb := List.mem_of_getElem? (i := 347) rfl
theorem tw_348 : (Jvm.Cond.fieldLink "WaitedCommitsModel" (13 : Nat) "WaitedCommitsModel" "late" "[I") ∈ wc_tb := List.mem_of_getElem? (i := 348) rfl
theorem tw_349 : (Jvm.Cond.fieldLink "WaitedCommitsModel" (16 : Nat) "WaitedCommitsModel" "slow" "[I") ∈ wc_tb := List.mem_of_getElem? (i := 349) rfl
theorem tw_350 : (Jvm.Cond.fieldLink "WaitedCommitsModel" (19 : Nat) "WaitedCommitsModel" "down" "[Z") ∈ wc_tb := List.mem_of_getElem? (i := 350) rfl
theorem tw_351 : (Jvm.Cond.fieldLink "WaitedCommitsModel" (23 : Nat) "WaitedCommitsModel" "bound" "[I") ∈ wc_tb := List.mem_of_getElem? (i := 351) rfl
theorem tw_352 : (Jvm.Cond.fieldLink "WaitedCommitsModel" (138 : Nat) "WaitedCommitsModel" "versions" "I") ∈ wc_tb := List.mem_of_getElem? (i := 352) rfl
theorem tw_353 : (Jvm.Cond.fieldLink "WaitedCommitsModel" (26 : Nat) "WaitedCommitsModel" "versionKey" "[I") ∈ wc_tb := List.mem_of_getElem? (i := 353) rfl
theorem tw_354 : (Jvm.Cond.fieldLink "WaitedCommitsModel" (29 : Nat) "WaitedCommitsModel" "versionStamp" "[I") ∈ wc_tb := List.mem_of_getElem? (i := 354) rfl
theorem tw_355 : (Jvm.Cond.fieldLink "WaitedCommitsModel" (32 : Nat) "WaitedCommitsModel" "versionValue" "[I") ∈ wc_tb := List.mem_of_getElem? (i := 355) rfl
theorem tw_356 : (Jvm.Cond.fieldLink "WaitedCommitsModel" (90 : Nat) "WaitedCommitsModel" "begun" "I") ∈ wc_tb := List.mem_of_getElem? (i := 356) rfl
theorem tw_357 : (Jvm.Cond.fieldLink "WaitedCommitsModel" (35 : Nat) "WaitedCommitsModel" "state" "[I") ∈ wc_tb := List.mem_of_getElem? (i := 357) rfl
theorem tw_358 : (Jvm.Cond.fieldLink "WaitedCommitsModel" (38 : Nat) "WaitedCommitsModel" "age" "[I") ∈ wc_tb := List.mem_of_getElem? (i := 358) rfl
theorem tw_359 : (Jvm.Cond.fieldLink "WaitedCommitsModel" (41 : Nat) "WaitedCommitsModel" "stamp" "[I") ∈ wc_tb := List.mem_of_getElem? (i := 359) rfl
theorem tw_360 : (Jvm.Cond.fieldLink "WaitedCommitsModel" (44 : Nat) "WaitedCommitsModel" "floor" "[I") ∈ wc_tb := List.mem_of_getElem? (i := 360) rfl
theorem tw_361 : (Jvm.Cond.fieldLink "WaitedCommitsModel" (47 : Nat) "WaitedCommitsModel" "ended" "[I") ∈ wc_tb := List.mem_of_getElem? (i := 361) rfl
theorem tw_362 : (Jvm.Cond.fieldLink "WaitedCommitsModel" (50 : Nat) "WaitedCommitsModel" "lock" "[I") ∈ wc_tb := List.mem_of_getElem? (i := 362) rfl
theorem tw_363 : (Jvm.Cond.fieldLink "WaitedCommitsModel" (53 : Nat) "WaitedCommitsModel" "wrote" "[Z") ∈ wc_tb := List.mem_of_getElem? (i := 363) rfl
theorem tw_364 : (Jvm.Cond.fieldLink "WaitedCommitsModel" (56 : Nat) "WaitedCommitsModel" "value" "[I") ∈ wc_tb := List.mem_of_getElem? (i := 364) rfl
theorem tw_365 : (Jvm.Cond.fieldLink "WaitedCommitsModel" (59 : Nat) "WaitedCommitsModel" "marked" "[Z") ∈ wc_tb := List.mem_of_getElem? (i := 365) rfl
theorem tw_366 : (Jvm.Cond.fieldLink "WaitedCommitsModel" (62 : Nat) "WaitedCommitsModel" "mark" "[I") ∈ wc_tb := List.mem_of_getElem? (i := 366) rfl
theorem tw_367 : (Jvm.Cond.fieldLink "WaitedCommitsModel" (117 : Nat) "WaitedCommitsModel" "sent" "I") ∈ wc_tb := List.mem_of_getElem? (i := 367) rfl
theorem tw_368 : (Jvm.Cond.fieldLink "WaitedCommitsModel" (65 : Nat) "WaitedCommitsModel" "arrives" "[I") ∈ wc_tb := List.mem_of_getElem? (i := 368) rfl
theorem tw_369 : (Jvm.Cond.fieldLink "WaitedCommitsModel" (68 : Nat) "WaitedCommitsModel" "number" "[I") ∈ wc_tb := List.mem_of_getElem? (i := 369) rfl
theorem tw_370 : (Jvm.Cond.lays "WaitedCommitsModel" "WaitedCommitsModel" "e" "I") ∈ wc_tb := List.mem_of_getElem? (i := 370) rfl
theorem tw_371 : (Jvm.Cond.lays "WaitedCommitsModel" "WaitedCommitsModel" "now" "I") ∈ wc_tb := List.mem_of_getElem? (i := 371) rfl
theorem tw_372 : (Jvm.Cond.lays "WaitedCommitsModel" "WaitedCommitsModel" "early" "[I") ∈ wc_tb := List.mem_of_getElem? (i := 372) rfl
theorem tw_373 : (Jvm.Cond.lays "WaitedCommitsModel" "WaitedCommitsModel" "late" "[I") ∈ wc_tb := List.mem_of_getElem? (i := 373) rfl
theorem tw_374 : (Jvm.Cond.lays "WaitedCommitsModel" "WaitedCommitsModel" "slow" "[I") ∈ wc_tb := List.mem_of_getElem? (i := 374) rfl
theorem tw_375 : (Jvm.Cond.lays "WaitedCommitsModel" "WaitedCommitsModel" "down" "[Z") ∈ wc_tb := List.mem_of_getElem? (i := 375) rfl
theorem tw_376 : (Jvm.Cond.lays "WaitedCommitsModel" "WaitedCommitsModel" "bound" "[I") ∈ wc_tb := List.mem_of_getElem? (i := 376) rfl
theorem tw_377 : (Jvm.Cond.lays "WaitedCommitsModel" "WaitedCommitsModel" "versions" "I") ∈ wc_tb := List.mem_of_getElem? (i := 377) rfl
theorem tw_378 : (Jvm.Cond.lays "WaitedCommitsModel" "WaitedCommitsModel" "versionKey" "[I") ∈ wc_tb := List.mem_of_getElem? (i := 378) rfl
theorem tw_379 : (Jvm.Cond.lays "WaitedCommitsModel" "WaitedCommitsModel" "versionStamp" "[I") ∈ wc_tb := List.mem_of_getElem? (i := 379) rfl
theorem tw_380 : (Jvm.Cond.lays "WaitedCommitsModel" "WaitedCommitsModel" "versionValue" "[I") ∈ wc_tb := List.mem_of_getElem? (i := 380) rfl
theorem tw_381 : (Jvm.Cond.lays "WaitedCommitsModel" "WaitedCommitsModel" "begun" "I") ∈ wc_tb := List.mem_of_getElem? (i := 381) rfl
theorem tw_382 : (Jvm.Cond.lays "WaitedCommitsModel" "WaitedCommitsModel" "state" "[I") ∈ wc_tb := List.mem_of_getElem? (i := 382) rfl
theorem tw_383 : (Jvm.Cond.lays "WaitedCommitsModel" "WaitedCommitsModel" "age" "[I") ∈ wc_tb := List.mem_of_getElem? (i := 383) rfl
theorem tw_384 : (Jvm.Cond.lays "WaitedCommitsModel" "WaitedCommitsModel" "stamp" "[I") ∈ wc_tb := List.mem_of_getElem? (i := 384) rfl
theorem tw_385 : (Jvm.Cond.lays "WaitedCommitsModel" "WaitedCommitsModel" "floor" "[I") ∈ wc_tb := List.mem_of_getElem? (i := 385) rfl
theorem tw_386 : (Jvm.Cond.lays "WaitedCommitsModel" "WaitedCommitsModel" "ended" "[I") ∈ wc_tb := List.mem_of_getElem? (i := 386) rfl
theorem tw_387 : (Jvm.Cond.lays "WaitedCommitsModel" "WaitedCommitsModel" "lock" "[I") ∈ wc_tb := List.mem_of_getElem? (i := 387) rfl
theorem tw_388 : (Jvm.Cond.lays "WaitedCommitsModel" "WaitedCommitsModel" "wrote" "[Z") ∈ wc_tb := List.mem_of_getElem? (i := 388) rfl
theorem tw_389 : (Jvm.Cond.lays "WaitedCommitsModel" "WaitedCommitsModel" "value" "[I") ∈ wc_tb := List.mem_of_getElem? (i := 389) rfl
theorem tw_390 : (Jvm.Cond.lays "WaitedCommitsModel" "WaitedCommitsModel" "marked" "[Z") ∈ wc_tb := List.mem_of_getElem? (i := 390) rfl
theorem tw_391 : (Jvm.Cond.lays "WaitedCommitsModel" "WaitedCommitsModel" "mark" "[I") ∈ wc_tb := List.mem_of_getElem? (i := 391) rfl
theorem tw_392 : (Jvm.Cond.lays "WaitedCommitsModel" "WaitedCommitsModel" "sent" "I") ∈ wc_tb := List.mem_of_getElem? (i := 392) rfl
theorem tw_393 : (Jvm.Cond.lays "WaitedCommitsModel" "WaitedCommitsModel" "arrives" "[I") ∈ wc_tb := List.mem_of_getElem? (i := 393) rfl
theorem tw_394 : (Jvm.Cond.lays "WaitedCommitsModel" "WaitedCommitsModel" "number" "[I") ∈ wc_tb := List.mem_of_getElem? (i := 394) rfl
theorem tw_395 : (Jvm.Cond.methodLink "WaitedCommitsLaw" (25 : Nat) ({ cls := "WaitedCommitsModel", name := "clock", desc := "(III)Z" } : Jvm.MethodName)) ∈ wc_tb := List.mem_of_getElem? (i := 395) rfl
theorem tw_396 : (Jvm.Cond.instanceMethod ({ cls := "WaitedCommitsModel", name := "clock", desc := "(III)Z" } : Jvm.MethodName)) ∈ wc_tb := List.mem_of_getElem? (i := 396) rfl
theorem tw_397 : (Jvm.Cond.selects "WaitedCommitsModel" ({ cls := "WaitedCommitsModel", name := "clock", desc := "(III)Z" } : Jvm.MethodName) ({ cls := "WaitedCommitsModel", name := "clock", desc := "(III)Z" } : Jvm.MethodName)) ∈ wc_tb := List.mem_of_getElem? (i := 397) rfl
theorem tw_398 : (Jvm.Cond.code ({ cls := "WaitedCommitsModel", name := "clock", desc := "(III)Z" } : Jvm.MethodName) prog_7_method_3_code (4 : Nat) (Option.some Jvm.ClassFile.FieldType.boolean)) ∈ wc_tb := List.mem_of_getElem? (i := 398) rfl
theorem tw_399 : (Jvm.Cond.methodLink "WaitedCommitsModel" (75 : Nat) ({ cls := "WaitedCommitsModel", name := "in", desc := "(II)Z" } : Jvm.MethodName)) ∈ wc_tb := List.mem_of_getElem? (i := 399) rfl
theorem tw_400 : (Jvm.Cond.static ({ cls := "WaitedCommitsModel", name := "in", desc := "(II)Z" } : Jvm.MethodName)) ∈ wc_tb := List.mem_of_getElem? (i := 400) rfl
set_option maxRecDepth 10000 in
theorem tw_401 : (Jvm.Cond.code ({ cls := "WaitedCommitsModel", name := "in", desc := "(II)Z" } : Jvm.MethodName) prog_7_method_2_code (2 : Nat) (Option.some Jvm.ClassFile.FieldType.boolean)) ∈ wc_tb := List.mem_of_getElem? (i := 401) rfl
set_option maxRecDepth 10000 in
theorem tw_402 : (Jvm.Cond.methodLink "WaitedCommitsLaw" (30 : Nat) ({ cls := "WaitedCommitsModel", name := "delay", desc := "(II)Z" } : Jvm.MethodName)) ∈ wc_tb := List.mem_of_getElem? (i := 402) rfl
set_option maxRecDepth 10000 in
theorem tw_403 : (Jvm.Cond.instanceMethod ({ cls := "WaitedCommitsModel", name := "delay", desc := "(II)Z" } : Jvm.MethodName)) ∈ wc_tb := List.mem_of_getElem? (i := 403) rfl
set_option maxRecDepth 10000 in
theorem tw_404 : (Jvm.Cond.selects "WaitedCommitsModel" ({ cls := "WaitedCommitsModel", name := "delay", desc := "(II)Z" } : Jvm.MethodName) ({ cls := "WaitedCommitsModel", name := "delay", desc := "(II)Z" } : Jvm.MethodName)) ∈ wc_tb := List.mem_of_getElem? (i := 404) rfl
set_option maxRecDepth 10000 in
theorem tw_405 : (Jvm.Cond.code ({ cls := "WaitedCommitsModel", name := "delay", desc := "(II)Z" } : Jvm.MethodName) prog_7_method_4_code (3 : Nat) (Option.some Jvm.ClassFile.FieldType.boolean)) ∈ wc_tb := List.mem_of_getElem? (i := 405) rfl
set_option maxRecDepth 10000 in
theorem tw_406 : (Jvm.Cond.methodLink "WaitedCommitsLaw" (35 : Nat) ({ cls := "WaitedCommitsModel", name := "power", desc := "(IZ)Z" } : Jvm.MethodName)) ∈ wc_tb := List.mem_of_getElem? (i := 406) rfl
set_option maxRecDepth 10000 in
theorem tw_407 : (Jvm.Cond.instanceMethod ({ cls := "WaitedCommitsModel", name := "power", desc := "(IZ)Z" } : Jvm.MethodName)) ∈ wc_tb := List.mem_of_getElem? (i := 407) rfl
set_option maxRecDepth 10000 in
theorem tw_408 : (Jvm.Cond.selects "WaitedCommitsModel" ({ cls := "WaitedCommitsModel", name := "power", desc := "(IZ)Z" } : Jvm.MethodName) ({ cls := "WaitedCommitsModel", name := "power", desc := "(IZ)Z" } : Jvm.MethodName)) ∈ wc_tb := List.mem_of_getElem? (i := 408) rfl
set_option maxRecDepth 10000 in
theorem tw_409 : (Jvm.Cond.code ({ cls := "WaitedCommitsModel", name := "power", desc := "(IZ)Z" } : Jvm.MethodName) prog_7_method_5_code (3 : Nat) (Option.some Jvm.ClassFile.FieldType.boolean)) ∈ wc_tb := List.mem_of_getElem? (i := 409) rfl
set_option maxRecDepth 10000 in
theorem tw_410 : (Jvm.Cond.methodLink "WaitedCommitsLaw" (40 : Nat) ({ cls := "WaitedCommitsModel", name := "begin", desc := "(I)Z" } : Jvm.MethodName)) ∈ wc_tb := List.mem_of_getElem? (i := 410) rfl
set_option maxRecDepth 10000 in
theorem tw_411 : (Jvm.Cond.instanceMethod ({ cls := "WaitedCommitsModel", name := "begin", desc := "(I)Z" } : Jvm.MethodName)) ∈ wc_tb := List.mem_of_getElem? (i := 411) rfl
set_option maxRecDepth 10000 in
theorem tw_412 : (Jvm.Cond.selects "WaitedCommitsModel" ({ cls := "WaitedCommitsModel", name := "begin", desc := "(I)Z" } : Jvm.MethodName) ({ cls := "WaitedCommitsModel", name := "begin", desc := "(I)Z" } : Jvm.MethodName)) ∈ wc_tb := List.mem_of_getElem? (i := 412) rfl
set_option maxRecDepth 10000 in
theorem tw_413 : (Jvm.Cond.code ({ cls := "WaitedCommitsModel", name := "begin", desc := "(I)Z" } : Jvm.MethodName) prog_7_method_11_code (2 : Nat) (Option.some Jvm.ClassFile.FieldType.boolean)) ∈ wc_tb := List.mem_of_getElem? (i := 413) rfl
set_option maxRecDepth 10000 in
theorem tw_414 : (Jvm.Cond.methodLink "WaitedCommitsModel" (82 : Nat) ({ cls := "WaitedCommitsModel", name := "least", desc := "(I)I" } : Jvm.MethodName)) ∈ wc_tb := List.mem_of_getElem? (i := 414) rfl
set_option maxRecDepth 10000 in
theorem tw_415 : (Jvm.Cond.instanceMethod ({ cls := "WaitedCommitsModel", name := "least", desc := "(I)I" } : Jvm.MethodName)) ∈ wc_tb := List.mem_of_getElem? (i := 415) rfl
set_option maxRecDepth 10000 in
theorem tw_416 : (Jvm.Cond.code ({ cls := "WaitedCommitsModel", name := "least", desc := "(I)I" } : Jvm.MethodName) prog_7_method_9_code (2 : Nat) (Option.some Jvm.ClassFile.FieldType.int)) ∈ wc_tb := List.mem_of_getElem? (i := 416) rfl
set_option maxRecDepth 10000 in
theorem tw_417 : (Jvm.Cond.methodLink "WaitedCommitsModel" (79 : Nat) ({ cls := "WaitedCommitsModel", name := "takesPart", desc := "(II)Z" } : Jvm.MethodName)) ∈ wc_tb := List.mem_of_getElem? (i := 417) rfl
set_option maxRecDepth 10000 in
theorem tw_418 : (Jvm.Cond.instanceMethod ({ cls := "WaitedCommitsModel", name := "takesPart", desc := "(II)Z" } : Jvm.MethodName)) ∈ wc_tb := List.mem_of_getElem? (i := 418) rfl
set_option maxRecDepth 10000 in
theorem tw_419 : (Jvm.Cond.code ({ cls := "WaitedCommitsModel", name := "takesPart", desc := "(II)Z" } : Jvm.MethodName) prog_7_method_8_code (3 : Nat) (Option.some Jvm.ClassFile.FieldType.boolean)) ∈ wc_tb := List.mem_of_getElem? (i := 419) rfl
set_option maxRecDepth 10000 in
theorem tw_420 : (Jvm.Cond.methodLink "WaitedCommitsModel" (86 : Nat) ({ cls := "WaitedCommitsModel", name := "forget", desc := "(I)V" } : Jvm.MethodName)) ∈ wc_tb := List.mem_of_getElem? (i := 420) rfl
set_option maxRecDepth 10000 in
theorem tw_421 : (Jvm.Cond.instanceMethod ({ cls := "WaitedCommitsModel", name := "forget", desc := "(I)V" } : Jvm.MethodName)) ∈ wc_tb := List.mem_of_getElem? (i := 421) rfl
set_option maxRecDepth 10000 in
theorem tw_422 : (Jvm.Cond.code ({ cls := "WaitedCommitsModel", name := "forget", desc := "(I)V" } : Jvm.MethodName) prog_7_method_10_code (3 : Nat) (Option.none : Option Jvm.ClassFile.FieldType)) ∈ wc_tb := List.mem_of_getElem? (i := 422) rfl
set_option maxRecDepth 10000 in
theorem tw_423 : (Jvm.Cond.methodLink "WaitedCommitsLaw" (45 : Nat) ({ cls := "WaitedCommitsModel", name := "read", desc := "(II)J" } : Jvm.MethodName)) ∈ wc_tb := List.mem_of_getElem? (i := 423) rfl
set_option maxRecDepth 10000 in
theorem tw_424 : (Jvm.Cond.instanceMethod ({ cls := "WaitedCommitsModel", name := "read", desc := "(II)J" } : Jvm.MethodName)) ∈ wc_tb := List.mem_of_getElem? (i := 424) rfl
set_option maxRecDepth 10000 in
theorem tw_425 : (Jvm.Cond.selects "WaitedCommitsModel" ({ cls := "WaitedCommitsModel", name := "read", desc := "(II)J" } : Jvm.MethodName) ({ cls := "WaitedCommitsModel", name := "read", desc := "(II)J" } : Jvm.MethodName)) ∈ wc_tb := List.mem_of_getElem? (i := 425) rfl
set_option maxRecDepth 10000 in
theorem tw_426 : (Jvm.Cond.code ({ cls := "WaitedCommitsModel", name := "read", desc := "(II)J" } : Jvm.MethodName) prog_7_method_15_code (4 : Nat) (Option.some Jvm.ClassFile.FieldType.long)) ∈ wc_tb := List.mem_of_getElem? (i := 426) rfl
set_option maxRecDepth 10000 in
theorem tw_427 : (Jvm.Cond.methodLink "WaitedCommitsModel" (100 : Nat) ({ cls := "WaitedCommitsModel", name := "active", desc := "(I)Z" } : Jvm.MethodName)) ∈ wc_tb := List.mem_of_getElem? (i := 427) rfl
set_option maxRecDepth 10000 in
theorem tw_428 : (Jvm.Cond.instanceMethod ({ cls := "WaitedCommitsModel", name := "active", desc := "(I)Z" } : Jvm.MethodName)) ∈ wc_tb := List.mem_of_getElem? (i := 428) rfl
set_option maxRecDepth 10000 in
theorem tw_429 : (Jvm.Cond.code ({ cls := "WaitedCommitsModel", name := "active", desc := "(I)Z" } : Jvm.MethodName) prog_7_method_7_code (2 : Nat) (Option.some Jvm.ClassFile.FieldType.boolean)) ∈ wc_tb := List.mem_of_getElem? (i := 429) rfl
set_option maxRecDepth 10000 in
theorem tw_430 : (Jvm.Cond.methodLink "WaitedCommitsModel" (104 : Nat) ({ cls := "WaitedCommitsModel", name := "take", desc := "(III)Z" } : Jvm.MethodName)) ∈ wc_tb := List.mem_of_getElem? (i := 430) rfl
set_option maxRecDepth 10000 in
theorem tw_431 : (Jvm.Cond.instanceMethod ({ cls := "WaitedCommitsModel", name := "take", desc := "(III)Z" } : Jvm.MethodName)) ∈ wc_tb := List.mem_of_getElem? (i := 431) rfl
set_option maxRecDepth 10000 in
theorem tw_432 : (Jvm.Cond.code ({ cls := "WaitedCommitsModel", name := "take", desc := "(III)Z" } : Jvm.MethodName) prog_7_method_13_code (5 : Nat) (Option.some Jvm.ClassFile.FieldType.boolean)) ∈ wc_tb := List.mem_of_getElem? (i := 432) rfl
set_option maxRecDepth 10000 in
theorem tw_433 : (Jvm.Cond.methodLink "WaitedCommitsModel" (93 : Nat) ({ cls := "WaitedCommitsModel", name := "conflicts", desc := "(IIII)Z" } : Jvm.MethodName)) ∈ wc_tb := List.mem_of_getElem? (i := 433) rfl
set_option maxRecDepth 10000 in
theorem tw_434 : (Jvm.Cond.instanceMethod ({ cls := "WaitedCommitsModel", name := "conflicts", desc := "(IIII)Z" } : Jvm.MethodName)) ∈ wc_tb := List.mem_of_getElem? (i := 434) rfl
set_option maxRecDepth 10000 in
theorem tw_435 : (Jvm.Cond.code ({ cls := "WaitedCommitsModel", name := "conflicts", desc := "(IIII)Z" } : Jvm.MethodName) prog_7_method_12_code (5 : Nat) (Option.some Jvm.ClassFile.FieldType.boolean)) ∈ wc_tb := List.mem_of_getElem? (i := 435) rfl
set_option maxRecDepth 10000 in
theorem tw_436 : (Jvm.Cond.methodLink "WaitedCommitsModel" (97 : Nat) ({ cls := "WaitedCommitsModel", name := "drop", desc := "(I)V" } : Jvm.MethodName)) ∈ wc_tb := List.mem_of_getElem? (i := 436) rfl
set_option maxRecDepth 10000 in
theorem tw_437 : (Jvm.Cond.instanceMethod ({ cls := "WaitedCommitsModel", name := "drop", desc := "(I)V" } : Jvm.MethodName)) ∈ wc_tb := List.mem_of_getElem? (i := 437) rfl
set_option maxRecDepth 10000 in
theorem tw_438 : (Jvm.Cond.code ({ cls := "WaitedCommitsModel", name := "drop", desc := "(I)V" } : Jvm.MethodName) prog_7_method_14_code (2 : Nat) (Option.none : Option Jvm.ClassFile.FieldType)) ∈ wc_tb := List.mem_of_getElem? (i := 438) rfl
set_option maxRecDepth 10000 in
theorem tw_439 : (Jvm.Cond.constantLong "WaitedCommitsModel" (108 : Nat) (1099511627776 : Int64)) ∈ wc_tb := List.mem_of_getElem? (i := 439) rfl
set_option maxRecDepth 10000 in
theorem tw_440 : (Jvm.Cond.methodLink "WaitedCommitsModel" (110 : Nat) ({ cls := "WaitedCommitsModel", name := "find", desc := "(II)I" } : Jvm.MethodName)) ∈ wc_tb := List.mem_of_getElem? (i := 440) rfl
set_option maxRecDepth 10000 in
theorem tw_441 : (Jvm.Cond.instanceMethod ({ cls := "WaitedCommitsModel", name := "find", desc := "(II)I" } : Jvm.MethodName)) ∈ wc_tb := List.mem_of_getElem? (i := 441) rfl
set_option maxRecDepth 10000 in
theorem tw_442 : (Jvm.Cond.code ({ cls := "WaitedCommitsModel", name := "find", desc := "(II)I" } : Jvm.MethodName) prog_7_method_27_code (5 : Nat) (Option.some Jvm.ClassFile.FieldType.int)) ∈ wc_tb := List.mem_of_getElem? (i := 442) rfl
set_option maxRecDepth 10000 in
theorem tw_443 : (Jvm.Cond.methodLink "WaitedCommitsLaw" (49 : Nat) ({ cls := "WaitedCommitsModel", name := "write", desc := "(III)Z" } : Jvm.MethodName)) ∈ wc_tb := List.mem_of_getElem? (i := 443) rfl
set_option maxRecDepth 10000 in
theorem tw_444 : (Jvm.Cond.instanceMethod ({ cls := "WaitedCommitsModel", name := "write", desc := "(III)Z" } : Jvm.MethodName)) ∈ wc_tb := List.mem_of_getElem? (i := 444) rfl
set_option maxRecDepth 10000 in
theorem tw_445 : (Jvm.Cond.selects "WaitedCommitsModel" ({ cls := "WaitedCommitsModel", name := "write", desc := "(III)Z" } : Jvm.MethodName) ({ cls := "WaitedCommitsModel", name := "write", desc := "(III)Z" } : Jvm.MethodName)) ∈ wc_tb := List.mem_of_getElem? (i := 445) rfl
set_option maxRecDepth 10000 in
theorem tw_446 : (Jvm.Cond.code ({ cls := "WaitedCommitsModel", name := "write", desc := "(III)Z" } : Jvm.MethodName) prog_7_method_16_code (4 : Nat) (Option.some Jvm.ClassFile.FieldType.boolean)) ∈ wc_tb := List.mem_of_getElem? (i := 446) rfl
set_option maxRecDepth 10000 in
theorem tw_447 : (Jvm.Cond.methodLink "WaitedCommitsLaw" (57 : Nat) ({ cls := "WaitedCommitsModel", name := "abort", desc := "(I)Z" } : Jvm.MethodName)) ∈ wc_tb := List.mem_of_getElem? (i := 447) rfl
set_option maxRecDepth 10000 in
theorem tw_448 : (Jvm.Cond.instanceMethod ({ cls := "WaitedCommitsModel", name := "abort", desc := "(I)Z" } : Jvm.MethodName)) ∈ wc_tb := List.mem_of_getElem? (i := 448) rfl
set_option maxRecDepth 10000 in
theorem tw_449 : (Jvm.Cond.selects "WaitedCommitsModel" ({ cls := "WaitedCommitsModel", name := "abort", desc := "(I)Z" } : Jvm.MethodName) ({ cls := "WaitedCommitsModel", name := "abort", desc := "(I)Z" } : Jvm.MethodName)) ∈ wc_tb := List.mem_of_getElem? (i := 449) rfl
set_option maxRecDepth 10000 in
theorem tw_450 : (Jvm.Cond.code ({ cls := "WaitedCommitsModel", name := "abort", desc := "(I)Z" } : Jvm.MethodName) prog_7_method_17_code (2 : Nat) (Option.some Jvm.ClassFile.FieldType.boolean)) ∈ wc_tb := List.mem_of_getElem? (i := 450) rfl
set_option maxRecDepth 10000 in
theorem tw_451 : (Jvm.Cond.methodLink "WaitedCommitsLaw" (53 : Nat) ({ cls := "WaitedCommitsModel", name := "commit", desc := "(I)Z" } : Jvm.MethodName)) ∈ wc_tb := List.mem_of_getElem? (i := 451) rfl
set_option maxRecDepth 10000 in
theorem tw_452 : (Jvm.Cond.instanceMethod ({ cls := "WaitedCommitsModel", name := "commit", desc := "(I)Z" } : Jvm.MethodName)) ∈ wc_tb := List.mem_of_getElem? (i := 452) rfl
set_option maxRecDepth 10000 in
theorem tw_453 : (Jvm.Cond.selects "WaitedCommitsModel" ({ cls := "WaitedCommitsModel", name := "commit", desc := "(I)Z" } : Jvm.MethodName) ({ cls := "WaitedCommitsModel", name := "commit", desc := "(I)Z" } : Jvm.MethodName)) ∈ wc_tb := List.mem_of_getElem? (i := 453) rfl
set_option maxRecDepth 10000 in
theorem tw_454 : (Jvm.Cond.code ({ cls := "WaitedCommitsModel", name := "commit", desc := "(I)Z" } : Jvm.MethodName) prog_7_method_20_code (4 : Nat) (Option.some Jvm.ClassFile.FieldType.boolean)) ∈ wc_tb := List.mem_of_getElem? (i := 454) rfl
set_option maxRecDepth 10000 in
theorem tw_455 : (Jvm.Cond.methodLink "WaitedCommitsModel" (124 : Nat) ({ cls := "WaitedCommitsModel", name := "sendAll", desc := "(III)V" } : Jvm.MethodName)) ∈ wc_tb := List.mem_of_getElem? (i := 455) rfl
set_option maxRecDepth 10000 in
theorem tw_456 : (Jvm.Cond.instanceMethod ({ cls := "WaitedCommitsModel", name := "sendAll", desc := "(III)V" } : Jvm.MethodName)) ∈ wc_tb := List.mem_of_getElem? (i := 456) rfl
set_option maxRecDepth 10000 in
theorem tw_457 : (Jvm.Cond.code ({ cls := "WaitedCommitsModel", name := "sendAll", desc := "(III)V" } : Jvm.MethodName) prog_7_method_19_code (5 : Nat) (Option.none : Option Jvm.ClassFile.FieldType)) ∈ wc_tb := List.mem_of_getElem? (i := 457) rfl
set_option maxRecDepth 10000 in
theorem tw_458 : (Jvm.Cond.methodLink "WaitedCommitsModel" (120 : Nat) ({ cls := "WaitedCommitsModel", name := "send", desc := "(IIII)V" } : Jvm.MethodName)) ∈ wc_tb := List.mem_of_getElem? (i := 458) rfl
set_option maxRecDepth 10000 in
theorem tw_459 : (Jvm.Cond.instanceMethod ({ cls := "WaitedCommitsModel", name := "send", desc := "(IIII)V" } : Jvm.MethodName)) ∈ wc_tb := List.mem_of_getElem? (i := 459) rfl
set_option maxRecDepth 10000 in
theorem tw_460 : (Jvm.Cond.code ({ cls := "WaitedCommitsModel", name := "send", desc := "(IIII)V" } : Jvm.MethodName) prog_7_method_18_code (6 : Nat) (Option.none : Option Jvm.ClassFile.FieldType)) ∈ wc_tb := List.mem_of_getElem? (i := 460) rfl
set_option maxRecDepth 10000 in
theorem tw_461 : (Jvm.Cond.methodLink "WaitedCommitsModel" (128 : Nat) ({ cls := "WaitedCommitsModel", name := "stampIfAll", desc := "(I)V" } : Jvm.MethodName)) ∈ wc_tb := List.mem_of_getElem? (i := 461) rfl
set_option maxRecDepth 10000 in
theorem tw_462 : (Jvm.Cond.instanceMethod ({ cls := "WaitedCommitsModel", name := "stampIfAll", desc := "(I)V" } : Jvm.MethodName)) ∈ wc_tb := List.mem_of_getElem? (i := 462) rfl
set_option maxRecDepth 10000 in
theorem tw_463 : (Jvm.Cond.code ({ cls := "WaitedCommitsModel", name := "stampIfAll", desc := "(I)V" } : Jvm.MethodName) prog_7_method_21_code (6 : Nat) (Option.none : Option Jvm.ClassFile.FieldType)) ∈ wc_tb := List.mem_of_getElem? (i := 463) rfl
set_option maxRecDepth 10000 in
theorem tw_464 : (Jvm.Cond.methodLink "WaitedCommitsModel" (131 : Nat) ({ cls := "WaitedCommitsModel", name := "put", desc := "(III)V" } : Jvm.MethodName)) ∈ wc_tb := List.mem_of_getElem? (i := 464) rfl
set_option maxRecDepth 10000 in
theorem tw_465 : (Jvm.Cond.instanceMethod ({ cls := "WaitedCommitsModel", name := "put", desc := "(III)V" } : Jvm.MethodName)) ∈ wc_tb := List.mem_of_getElem? (i := 465) rfl
set_option maxRecDepth 10000 in
theorem tw_466 : (Jvm.Cond.code ({ cls := "WaitedCommitsModel", name := "put", desc := "(III)V" } : Jvm.MethodName) prog_7_method_22_code (4 : Nat) (Option.none : Option Jvm.ClassFile.FieldType)) ∈ wc_tb := List.mem_of_getElem? (i := 466) rfl
set_option maxRecDepth 10000 in
theorem tw_467 : (Jvm.Cond.methodLink "WaitedCommitsLaw" (66 : Nat) ({ cls := "WaitedCommitsModel", name := "step", desc := "(I)I" } : Jvm.MethodName)) ∈ wc_tb := List.mem_of_getElem? (i := 467) rfl
set_option maxRecDepth 10000 in
theorem tw_468 : (Jvm.Cond.instanceMethod ({ cls := "WaitedCommitsModel", name := "step", desc := "(I)I" } : Jvm.MethodName)) ∈ wc_tb := List.mem_of_getElem? (i := 468) rfl
set_option maxRecDepth 10000 in
theorem tw_469 : (Jvm.Cond.selects "WaitedCommitsModel" ({ cls := "WaitedCommitsModel", name := "step", desc := "(I)I" } : Jvm.MethodName) ({ cls := "WaitedCommitsModel", name := "step", desc := "(I)I" } : Jvm.MethodName)) ∈ wc_tb := List.mem_of_getElem? (i := 469) rfl
set_option maxRecDepth 10000 in
theorem tw_470 : (Jvm.Cond.code ({ cls := "WaitedCommitsModel", name := "step", desc := "(I)I" } : Jvm.MethodName) prog_7_method_26_code (7 : Nat) (Option.some Jvm.ClassFile.FieldType.int)) ∈ wc_tb := List.mem_of_getElem? (i := 470) rfl
set_option maxRecDepth 10000 in
theorem tw_471 : (Jvm.Cond.methodLink "WaitedCommitsModel" (144 : Nat) ({ cls := "WaitedCommitsModel", name := "next", desc := "()I" } : Jvm.MethodName)) ∈ wc_tb := List.mem_of_getElem? (i := 471) rfl
set_option maxRecDepth 10000 in
theorem tw_472 : (Jvm.Cond.instanceMethod ({ cls := "WaitedCommitsModel", name := "next", desc := "()I" } : Jvm.MethodName)) ∈ wc_tb := List.mem_of_getElem? (i := 472) rfl
set_option maxRecDepth 10000 in
theorem tw_473 : (Jvm.Cond.code ({ cls := "WaitedCommitsModel", name := "next", desc := "()I" } : Jvm.MethodName) prog_7_method_25_code (6 : Nat) (Option.some Jvm.ClassFile.FieldType.int)) ∈ wc_tb := List.mem_of_getElem? (i := 473) rfl
set_option maxRecDepth 10000 in
theorem tw_474 : (Jvm.Cond.methodLink "WaitedCommitsModel" (148 : Nat) ({ cls := "WaitedCommitsModel", name := "deal", desc := "(I)V" } : Jvm.MethodName)) ∈ wc_tb := List.mem_of_getElem? (i := 474) rfl
set_option maxRecDepth 10000 in
theorem tw_475 : (Jvm.Cond.instanceMethod ({ cls := "WaitedCommitsModel", name := "deal", desc := "(I)V" } : Jvm.MethodName)) ∈ wc_tb := List.mem_of_getElem? (i := 475) rfl
set_option maxRecDepth 10000 in
theorem tw_476 : (Jvm.Cond.code ({ cls := "WaitedCommitsModel", name := "deal", desc := "(I)V" } : Jvm.MethodName) prog_7_method_23_code (7 : Nat) (Option.none : Option Jvm.ClassFile.FieldType)) ∈ wc_tb := List.mem_of_getElem? (i := 476) rfl
set_option maxRecDepth 10000 in
theorem tw_477 : (Jvm.Cond.methodLink "WaitedCommitsModel" (134 : Nat) ({ cls := "WaitedCommitsModel", name := "finish", desc := "(II)V" } : Jvm.MethodName)) ∈ wc_tb := List.mem_of_getElem? (i := 477) rfl
set_option maxRecDepth 10000 in
theorem tw_478 : (Jvm.Cond.instanceMethod ({ cls := "WaitedCommitsModel", name := "finish", desc := "(II)V" } : Jvm.MethodName)) ∈ wc_tb := List.mem_of_getElem? (i := 478) rfl
set_option maxRecDepth 10000 in
theorem tw_479 : (Jvm.Cond.code ({ cls := "WaitedCommitsModel", name := "finish", desc := "(II)V" } : Jvm.MethodName) prog_7_method_24_code (4 : Nat) (Option.none : Option Jvm.ClassFile.FieldType)) ∈ wc_tb := List.mem_of_getElem? (i := 479) rfl
set_option maxRecDepth 10000 in
theorem tw_480 : (Jvm.Cond.methodLink "WaitedCommitsModel" (141 : Nat) ({ cls := "WaitedCommitsModel", name := "raise", desc := "(II)V" } : Jvm.MethodName)) ∈ wc_tb := List.mem_of_getElem? (i := 480) rfl
set_option maxRecDepth 10000 in
theorem tw_481 : (Jvm.Cond.instanceMethod ({ cls := "WaitedCommitsModel", name := "raise", desc := "(II)V" } : Jvm.MethodName)) ∈ wc_tb := List.mem_of_getElem? (i := 481) rfl
set_option maxRecDepth 10000 in
theorem tw_482 : (Jvm.Cond.code ({ cls := "WaitedCommitsModel", name := "raise", desc := "(II)V" } : Jvm.MethodName) prog_7_method_6_code (3 : Nat) (Option.none : Option Jvm.ClassFile.FieldType)) ∈ wc_tb := List.mem_of_getElem? (i := 482) rfl
set_option maxRecDepth 10000 in
theorem tw_483 : (Jvm.Cond.methodLink "WaitedCommitsLaw" (104 : Nat) ({ cls := "WaitedCommitsModel", name := "version", desc := "(II)I" } : Jvm.MethodName)) ∈ wc_tb := List.mem_of_getElem? (i := 483) rfl
set_option maxRecDepth 10000 in
theorem tw_484 : (Jvm.Cond.instanceMethod ({ cls := "WaitedCommitsModel", name := "version", desc := "(II)I" } : Jvm.MethodName)) ∈ wc_tb := List.mem_of_getElem? (i := 484) rfl
set_option maxRecDepth 10000 in
theorem tw_485 : (Jvm.Cond.selects "WaitedCommitsModel" ({ cls := "WaitedCommitsModel", name := "version", desc := "(II)I" } : Jvm.MethodName) ({ cls := "WaitedCommitsModel", name := "version", desc := "(II)I" } : Jvm.MethodName)) ∈ wc_tb := List.mem_of_getElem? (i := 485) rfl
set_option maxRecDepth 10000 in
theorem tw_486 : (Jvm.Cond.code ({ cls := "WaitedCommitsModel", name := "version", desc := "(II)I" } : Jvm.MethodName) prog_7_method_28_code (4 : Nat) (Option.some Jvm.ClassFile.FieldType.int)) ∈ wc_tb := List.mem_of_getElem? (i := 486) rfl
set_option maxRecDepth 10000 in
theorem tw_487 : (Jvm.Cond.methodLink "WaitedCommitsLaw" (61 : Nat) ({ cls := "WaitedCommitsModel", name := "readAt", desc := "(II)J" } : Jvm.MethodName)) ∈ wc_tb := List.mem_of_getElem? (i := 487) rfl
set_option maxRecDepth 10000 in
theorem tw_488 : (Jvm.Cond.instanceMethod ({ cls := "WaitedCommitsModel", name := "readAt", desc := "(II)J" } : Jvm.MethodName)) ∈ wc_tb := List.mem_of_getElem? (i := 488) rfl
set_option maxRecDepth 10000 in
theorem tw_489 : (Jvm.Cond.selects "WaitedCommitsModel" ({ cls := "WaitedCommitsModel", name := "readAt", desc := "(II)J" } : Jvm.MethodName) ({ cls := "WaitedCommitsModel", name := "readAt", desc := "(II)J" } : Jvm.MethodName)) ∈ wc_tb := List.mem_of_getElem? (i := 489) rfl
set_option maxRecDepth 10000 in
theorem tw_490 : (Jvm.Cond.code ({ cls := "WaitedCommitsModel", name := "readAt", desc := "(II)J" } : Jvm.MethodName) prog_7_method_29_code (5 : Nat) (Option.some Jvm.ClassFile.FieldType.long)) ∈ wc_tb := List.mem_of_getElem? (i := 490) rfl
set_option maxRecDepth 10000 in
theorem tw_491 : (Jvm.Cond.methodLink "WaitedCommitsModel" (151 : Nat) ({ cls := "WaitedCommitsModel", name := "safe", desc := "(I)I" } : Jvm.MethodName)) ∈ wc_tb := List.mem_of_getElem? (i := 491) rfl
set_option maxRecDepth 10000 in
theorem tw_492 : (Jvm.Cond.instanceMethod ({ cls := "WaitedCommitsModel", name := "safe", desc := "(I)I" } : Jvm.MethodName)) ∈ wc_tb := List.mem_of_getElem? (i := 492) rfl
set_option maxRecDepth 10000 in
theorem tw_493 : (Jvm.Cond.selects "WaitedCommitsModel" ({ cls := "WaitedCommitsModel", name := "safe", desc := "(I)I" } : Jvm.MethodName) ({ cls := "WaitedCommitsModel", name := "safe", desc := "(I)I" } : Jvm.MethodName)) ∈ wc_tb := List.mem_of_getElem? (i := 493) rfl
set_option maxRecDepth 10000 in
theorem tw_494 : (Jvm.Cond.code ({ cls := "WaitedCommitsModel", name := "safe", desc := "(I)I" } : Jvm.MethodName) prog_7_method_35_code (4 : Nat) (Option.some Jvm.ClassFile.FieldType.int)) ∈ wc_tb := List.mem_of_getElem? (i := 494) rfl
set_option maxRecDepth 10000 in
theorem tw_495 : (Jvm.Cond.constantLong "WaitedCommitsModel" (154 : Nat) (2199023255552 : Int64)) ∈ wc_tb := List.mem_of_getElem? (i := 495) rfl
set_option maxRecDepth 10000 in
theorem tw_496 : (Jvm.Cond.methodLink "WaitedCommitsLaw" (71 : Nat) ({ cls := "WaitedCommitsModel", name := "now", desc := "()I" } : Jvm.MethodName)) ∈ wc_tb := List.mem_of_getElem? (i := 496) rfl
set_option maxRecDepth 10000 in
theorem tw_497 : (Jvm.Cond.instanceMethod ({ cls := "WaitedCommitsModel", name := "now", desc := "()I" } : Jvm.MethodName)) ∈ wc_tb := List.mem_of_getElem? (i := 497) rfl
set_option maxRecDepth 10000 in
theorem tw_498 : (Jvm.Cond.selects "WaitedCommitsModel" ({ cls := "WaitedCommitsModel", name := "now", desc := "()I" } : Jvm.MethodName) ({ cls := "WaitedCommitsModel", name := "now", desc := "()I" } : Jvm.MethodName)) ∈ wc_tb := List.mem_of_getElem? (i := 498) rfl
set_option maxRecDepth 10000 in
theorem tw_499 : (Jvm.Cond.code ({ cls := "WaitedCommitsModel", name := "now", desc := "()I" } : Jvm.MethodName) prog_7_method_30_code (1 : Nat) (Option.some Jvm.ClassFile.FieldType.int)) ∈ wc_tb := List.mem_of_getElem? (i := 499) rfl
set_option maxRecDepth 10000 in
theorem tw_500 : (Jvm.Cond.methodLink "WaitedCommitsLaw" (75 : Nat) ({ cls := "WaitedCommitsModel", name := "state", desc := "(I)I" } : Jvm.MethodName)) ∈ wc_tb := List.mem_of_getElem? (i := 500) rfl
set_option maxRecDepth 10000 in
theorem tw_501 : (Jvm.Cond.instanceMethod ({ cls := "WaitedCommitsModel", name := "state", desc := "(I)I" } : Jvm.MethodName)) ∈ wc_tb := List.mem_of_getElem? (i := 501) rfl
set_option maxRecDepth 10000 in
theorem tw_502 : (Jvm.Cond.selects "WaitedCommitsModel" ({ cls := "WaitedCommitsModel", name := "state", desc := "(I)I" } : Jvm.MethodName) ({ cls := "WaitedCommitsModel", name := "state", desc := "(I)I" } : Jvm.MethodName)) ∈ wc_tb := List.mem_of_getElem? (i := 502) rfl
set_option maxRecDepth 10000 in
theorem tw_503 : (Jvm.Cond.code ({ cls := "WaitedCommitsModel", name := "state", desc := "(I)I" } : Jvm.MethodName) prog_7_method_31_code (2 : Nat) (Option.some Jvm.ClassFile.FieldType.int)) ∈ wc_tb := List.mem_of_getElem? (i := 503) rfl
set_option maxRecDepth 10000 in
theorem tw_504 : (Jvm.Cond.methodLink "WaitedCommitsLaw" (79 : Nat) ({ cls := "WaitedCommitsModel", name := "stamp", desc := "(I)I" } : Jvm.MethodName)) ∈ wc_tb := List.mem_of_getElem? (i := 504) rfl
set_option maxRecDepth 10000 in
theorem tw_505 : (Jvm.Cond.instanceMethod ({ cls := "WaitedCommitsModel", name := "stamp", desc := "(I)I" } : Jvm.MethodName)) ∈ wc_tb := List.mem_of_getElem? (i := 505) rfl
set_option maxRecDepth 10000 in
theorem tw_506 : (Jvm.Cond.selects "WaitedCommitsModel" ({ cls := "WaitedCommitsModel", name := "stamp", desc := "(I)I" } : Jvm.MethodName) ({ cls := "WaitedCommitsModel", name := "stamp", desc := "(I)I" } : Jvm.MethodName)) ∈ wc_tb := List.mem_of_getElem? (i := 506) rfl
set_option maxRecDepth 10000 in
theorem tw_507 : (Jvm.Cond.code ({ cls := "WaitedCommitsModel", name := "stamp", desc := "(I)I" } : Jvm.MethodName) prog_7_method_32_code (2 : Nat) (Option.some Jvm.ClassFile.FieldType.int)) ∈ wc_tb := List.mem_of_getElem? (i := 507) rfl
set_option maxRecDepth 10000 in
theorem tw_508 : (Jvm.Cond.methodLink "WaitedCommitsLaw" (83 : Nat) ({ cls := "WaitedCommitsModel", name := "end", desc := "(I)I" } : Jvm.MethodName)) ∈ wc_tb := List.mem_of_getElem? (i := 508) rfl
set_option maxRecDepth 10000 in
theorem tw_509 : (Jvm.Cond.instanceMethod ({ cls := "WaitedCommitsModel", name := "end", desc := "(I)I" } : Jvm.MethodName)) ∈ wc_tb := List.mem_of_getElem? (i := 509) rfl
set_option maxRecDepth 10000 in
theorem tw_510 : (Jvm.Cond.selects "WaitedCommitsModel" ({ cls := "WaitedCommitsModel", name := "end", desc := "(I)I" } : Jvm.MethodName) ({ cls := "WaitedCommitsModel", name := "end", desc := "(I)I" } : Jvm.MethodName)) ∈ wc_tb := List.mem_of_getElem? (i := 510) rfl
set_option maxRecDepth 10000 in
theorem tw_511 : (Jvm.Cond.code ({ cls := "WaitedCommitsModel", name := "end", desc := "(I)I" } : Jvm.MethodName) prog_7_method_33_code (2 : Nat) (Option.some Jvm.ClassFile.FieldType.int)) ∈ wc_tb := List.mem_of_getElem? (i := 511) rfl
set_option maxRecDepth 10000 in
theorem tw_512 : (Jvm.Cond.methodLink "WaitedCommitsLaw" (87 : Nat) ({ cls := "WaitedCommitsModel", name := "marks", desc := "(I)I" } : Jvm.MethodName)) ∈ wc_tb := List.mem_of_getElem? (i := 512) rfl
set_option maxRecDepth 10000 in
theorem tw_513 : (Jvm.Cond.instanceMethod ({ cls := "WaitedCommitsModel", name := "marks", desc := "(I)I" } : Jvm.MethodName)) ∈ wc_tb := List.mem_of_getElem? (i := 513) rfl
set_option maxRecDepth 10000 in
theorem tw_514 : (Jvm.Cond.selects "WaitedCommitsModel" ({ cls := "WaitedCommitsModel", name := "marks", desc := "(I)I" } : Jvm.MethodName) ({ cls := "WaitedCommitsModel", name := "marks", desc := "(I)I" } : Jvm.MethodName)) ∈ wc_tb := List.mem_of_getElem? (i := 514) rfl
set_option maxRecDepth 10000 in
theorem tw_515 : (Jvm.Cond.code ({ cls := "WaitedCommitsModel", name := "marks", desc := "(I)I" } : Jvm.MethodName) prog_7_method_34_code (5 : Nat) (Option.some Jvm.ClassFile.FieldType.int)) ∈ wc_tb := List.mem_of_getElem? (i := 515) rfl
set_option maxRecDepth 10000 in
theorem tw_516 : (Jvm.Cond.methodLink "WaitedCommitsLaw" (91 : Nat) ({ cls := "WaitedCommitsModel", name := "safe", desc := "(I)I" } : Jvm.MethodName)) ∈ wc_tb := List.mem_of_getElem? (i := 516) rfl
set_option maxRecDepth 10000 in
theorem tw_517 : (Jvm.Cond.methodLink "WaitedCommitsLaw" (95 : Nat) ({ cls := "WaitedCommitsModel", name := "bound", desc := "(I)I" } : Jvm.MethodName)) ∈ wc_tb := List.mem_of_getElem? (i := 517) rfl
set_option maxRecDepth 10000 in
theorem tw_518 : (Jvm.Cond.instanceMethod ({ cls := "WaitedCommitsModel", name := "bound", desc := "(I)I" } : Jvm.MethodName)) ∈ wc_tb := List.mem_of_getElem? (i := 518) rfl
set_option maxRecDepth 10000 in
theorem tw_519 : (Jvm.Cond.selects "WaitedCommitsModel" ({ cls := "WaitedCommitsModel", name := "bound", desc := "(I)I" } : Jvm.MethodName) ({ cls := "WaitedCommitsModel", name := "bound", desc := "(I)I" } : Jvm.MethodName)) ∈ wc_tb := List.mem_of_getElem? (i := 519) rfl
set_option maxRecDepth 10000 in
theorem tw_520 : (Jvm.Cond.code ({ cls := "WaitedCommitsModel", name := "bound", desc := "(I)I" } : Jvm.MethodName) prog_7_method_36_code (2 : Nat) (Option.some Jvm.ClassFile.FieldType.int)) ∈ wc_tb := List.mem_of_getElem? (i := 520) rfl
set_option maxRecDepth 10000 in
theorem tw_521 : (Jvm.Cond.methodLink "WaitedCommitsLaw" (99 : Nat) ({ cls := "WaitedCommitsModel", name := "holders", desc := "(I)I" } : Jvm.MethodName)) ∈ wc_tb := List.mem_of_getElem? (i := 521) rfl
set_option maxRecDepth 10000 in
theorem tw_522 : (Jvm.Cond.instanceMethod ({ cls := "WaitedCommitsModel", name := "holders", desc := "(I)I" } : Jvm.MethodName)) ∈ wc_tb := List.mem_of_getElem? (i := 522) rfl
set_option maxRecDepth 10000 in
theorem tw_523 : (Jvm.Cond.selects "WaitedCommitsModel" ({ cls := "WaitedCommitsModel", name := "holders", desc := "(I)I" } : Jvm.MethodName) ({ cls := "WaitedCommitsModel", name := "holders", desc := "(I)I" } : Jvm.MethodName)) ∈ wc_tb := List.mem_of_getElem? (i := 523) rfl
set_option maxRecDepth 10000 in
theorem tw_524 : (Jvm.Cond.code ({ cls := "WaitedCommitsModel", name := "holders", desc := "(I)I" } : Jvm.MethodName) prog_7_method_37_code (4 : Nat) (Option.some Jvm.ClassFile.FieldType.int)) ∈ wc_tb := List.mem_of_getElem? (i := 524) rfl
set_option maxRecDepth 10000 in
theorem tw_525 : (Jvm.Cond.methodLink "WaitedCommitsLaw" (108 : Nat) ({ cls := "WaitedCommitsModel", name := "messages", desc := "()I" } : Jvm.MethodName)) ∈ wc_tb := List.mem_of_getElem? (i := 525) rfl
set_option maxRecDepth 10000 in
theorem tw_526 : (Jvm.Cond.instanceMethod ({ cls := "WaitedCommitsModel", name := "messages", desc := "()I" } : Jvm.MethodName)) ∈ wc_tb := List.mem_of_getElem? (i := 526) rfl
set_option maxRecDepth 10000 in
theorem tw_527 : (Jvm.Cond.selects "WaitedCommitsModel" ({ cls := "WaitedCommitsModel", name := "messages", desc := "()I" } : Jvm.MethodName) ({ cls := "WaitedCommitsModel", name := "messages", desc := "()I" } : Jvm.MethodName)) ∈ wc_tb := List.mem_of_getElem? (i := 527) rfl
set_option maxRecDepth 10000 in
theorem tw_528 : (Jvm.Cond.code ({ cls := "WaitedCommitsModel", name := "messages", desc := "()I" } : Jvm.MethodName) prog_7_method_38_code (3 : Nat) (Option.some Jvm.ClassFile.FieldType.int)) ∈ wc_tb := List.mem_of_getElem? (i := 528) rfl
set_option maxRecDepth 10000 in
theorem tw_529 : (Jvm.Cond.selects "WaitedCommits" ({ cls := "WaitedCommits", name := "isError", desc := "(I)Z" } : Jvm.MethodName) ({ cls := "WaitedCommits", name := "isError", desc := "(I)Z" } : Jvm.MethodName)) ∈ wc_tb := List.mem_of_getElem? (i := 529) rfl
set_option maxRecDepth 10000 in
theorem tw_530 : (Jvm.Cond.selects "WaitedCommits$Transaction" ({ cls := "WaitedCommits$Transaction", name := "leastParticipant", desc := "()I" } : Jvm.MethodName) ({ cls := "WaitedCommits$Transaction", name := "leastParticipant", desc := "()I" } : Jvm.MethodName)) ∈ wc_tb := List.mem_of_getElem? (i := 530) rfl
set_option maxRecDepth 10000 in
theorem tw_531 : (Jvm.Cond.selects "WaitedCommits$Transaction" ({ cls := "WaitedCommits$Transaction", name := "holdsAt", desc := "(I)Z" } : Jvm.MethodName) ({ cls := "WaitedCommits$Transaction", name := "holdsAt", desc := "(I)Z" } : Jvm.MethodName)) ∈ wc_tb := List.mem_of_getElem? (i := 531) rfl
set_option maxRecDepth 10000 in
theorem tw_532 : (Jvm.Cond.selects "WaitedCommits" ({ cls := "WaitedCommits", name := "isActive", desc := "(I)Z" } : Jvm.MethodName) ({ cls := "WaitedCommits", name := "isActive", desc := "(I)Z" } : Jvm.MethodName)) ∈ wc_tb := List.mem_of_getElem? (i := 532) rfl
set_option maxRecDepth 10000 in
theorem tw_533 : (Jvm.Cond.selects "WaitedCommits" ({ cls := "WaitedCommits", name := "lock", desc := "(LWaitedCommits$Transaction;II)Z" } : Jvm.MethodName) ({ cls := "WaitedCommits", name := "lock", desc := "(LWaitedCommits$Transaction;II)Z" } : Jvm.MethodName)) ∈ wc_tb := List.mem_of_getElem? (i := 533) rfl
set_option maxRecDepth 10000 in
theorem tw_534 : (Jvm.Cond.selects "WaitedCommits$Transaction" ({ cls := "WaitedCommits$Transaction", name := "giveUp", desc := "()V" } : Jvm.MethodName) ({ cls := "WaitedCommits$Transaction", name := "giveUp", desc := "()V" } : Jvm.MethodName)) ∈ wc_tb := List.mem_of_getElem? (i := 534) rfl
set_option maxRecDepth 10000 in
theorem tw_535 : (Jvm.Cond.selects "WaitedCommits$Transaction" ({ cls := "WaitedCommits$Transaction", name := "unlockAt", desc := "(I)V" } : Jvm.MethodName) ({ cls := "WaitedCommits$Transaction", name := "unlockAt", desc := "(I)V" } : Jvm.MethodName)) ∈ wc_tb := List.mem_of_getElem? (i := 535) rfl
set_option maxRecDepth 10000 in
theorem tw_536 : (Jvm.Cond.selects "WaitedCommits" ({ cls := "WaitedCommits", name := "prepare", desc := "(I)V" } : Jvm.MethodName) ({ cls := "WaitedCommits", name := "prepare", desc := "(I)V" } : Jvm.MethodName)) ∈ wc_tb := List.mem_of_getElem? (i := 536) rfl
set_option maxRecDepth 10000 in
theorem tw_537 : (Jvm.Cond.selects "WaitedCommits" ({ cls := "WaitedCommits", name := "latest", desc := "(I)I" } : Jvm.MethodName) ({ cls := "WaitedCommits", name := "latest", desc := "(I)I" } : Jvm.MethodName)) ∈ wc_tb := List.mem_of_getElem? (i := 537) rfl
set_option maxRecDepth 10000 in
theorem tw_538 : (Jvm.Cond.selects "WaitedCommits" ({ cls := "WaitedCommits", name := "sendToOthers", desc := "(II)I" } : Jvm.MethodName) ({ cls := "WaitedCommits", name := "sendToOthers", desc := "(II)I" } : Jvm.MethodName)) ∈ wc_tb := List.mem_of_getElem? (i := 538) rfl
set_option maxRecDepth 10000 in
theorem tw_539 : (Jvm.Cond.selects "WaitedCommits" ({ cls := "WaitedCommits", name := "send", desc := "(III)V" } : Jvm.MethodName) ({ cls := "WaitedCommits", name := "send", desc := "(III)V" } : Jvm.MethodName)) ∈ wc_tb := List.mem_of_getElem? (i := 539) rfl
set_option maxRecDepth 10000 in
theorem tw_540 : (Jvm.Cond.selects "WaitedCommits" ({ cls := "WaitedCommits", name := "chooseStamp", desc := "(LWaitedCommits$Transaction;)V" } : Jvm.MethodName) ({ cls := "WaitedCommits", name := "chooseStamp", desc := "(LWaitedCommits$Transaction;)V" } : Jvm.MethodName)) ∈ wc_tb := List.mem_of_getElem? (i := 540) rfl
set_option maxRecDepth 10000 in
theorem tw_541 : (Jvm.Cond.selects "WaitedCommits$Transaction" ({ cls := "WaitedCommits$Transaction", name := "greatestMark", desc := "()I" } : Jvm.MethodName) ({ cls := "WaitedCommits$Transaction", name := "greatestMark", desc := "()I" } : Jvm.MethodName)) ∈ wc_tb := List.mem_of_getElem? (i := 541) rfl
set_option maxRecDepth 10000 in
theorem tw_542 : (Jvm.Cond.selects "WaitedCommits" ({ cls := "WaitedCommits", name := "greatestReadyTime", desc := "(I)I" } : Jvm.MethodName) ({ cls := "WaitedCommits", name := "greatestReadyTime", desc := "(I)I" } : Jvm.MethodName)) ∈ wc_tb := List.mem_of_getElem? (i := 542) rfl
set_option maxRecDepth 10000 in
theorem tw_543 : (Jvm.Cond.selects "WaitedCommits" ({ cls := "WaitedCommits", name := "leastMark", desc := "(I)I" } : Jvm.MethodName) ({ cls := "WaitedCommits", name := "leastMark", desc := "(I)I" } : Jvm.MethodName)) ∈ wc_tb := List.mem_of_getElem? (i := 543) rfl
set_option maxRecDepth 10000 in
theorem tw_544 : (Jvm.Cond.selects "WaitedCommits$Site" ({ cls := "WaitedCommits$Site", name := "raiseBound", desc := "(I)V" } : Jvm.MethodName) ({ cls := "WaitedCommits$Site", name := "raiseBound", desc := "(I)V" } : Jvm.MethodName)) ∈ wc_tb := List.mem_of_getElem? (i := 544) rfl
set_option maxRecDepth 10000 in
theorem tw_545 : (Jvm.Cond.selects "WaitedCommits$Key" ({ cls := "WaitedCommits$Key", name := "valueAt", desc := "(I)J" } : Jvm.MethodName) ({ cls := "WaitedCommits$Key", name := "valueAt", desc := "(I)J" } : Jvm.MethodName)) ∈ wc_tb := List.mem_of_getElem? (i := 545) rfl
set_option maxRecDepth 10000 in
theorem tw_546 : (Jvm.Cond.selects "WaitedCommits" ({ cls := "WaitedCommits", name := "deliverMessages", desc := "()V" } : Jvm.MethodName) ({ cls := "WaitedCommits", name := "deliverMessages", desc := "()V" } : Jvm.MethodName)) ∈ wc_tb := List.mem_of_getElem? (i := 546) rfl
set_option maxRecDepth 10000 in
theorem tw_547 : (Jvm.Cond.selects "WaitedCommits" ({ cls := "WaitedCommits", name := "firstDue", desc := "()LWaitedCommits$Message;" } : Jvm.MethodName) ({ cls := "WaitedCommits", name := "firstDue", desc := "()LWaitedCommits$Message;" } : Jvm.MethodName)) ∈ wc_tb := List.mem_of_getElem? (i := 547) rfl
set_option maxRecDepth 10000 in
theorem tw_548 : (Jvm.Cond.selects "WaitedCommits" ({ cls := "WaitedCommits", name := "isDue", desc := "(LWaitedCommits$Message;)Z" } : Jvm.MethodName) ({ cls := "WaitedCommits", name := "isDue", desc := "(LWaitedCommits$Message;)Z" } : Jvm.MethodName)) ∈ wc_tb := List.mem_of_getElem? (i := 548) rfl
set_option maxRecDepth 10000 in
theorem tw_549 : (Jvm.Cond.selects "WaitedCommits$Message" ({ cls := "WaitedCommits$Message", name := "comesBefore", desc := "(LWaitedCommits$Message;)Z" } : Jvm.MethodName) ({ cls := "WaitedCommits$Message", name := "comesBefore", desc := "(LWaitedCommits$Message;)Z" } : Jvm.MethodName)) ∈ wc_tb := List.mem_of_getElem? (i := 549) rfl
set_option maxRecDepth 10000 in
theorem tw_550 : (Jvm.Cond.selects "WaitedCommits" ({ cls := "WaitedCommits", name := "dealWith", desc := "(LWaitedCommits$Message;)V" } : Jvm.MethodName) ({ cls := "WaitedCommits", name := "dealWith", desc := "(LWaitedCommits$Message;)V" } : Jvm.MethodName)) ∈ wc_tb := List.mem_of_getElem? (i := 550) rfl
set_option maxRecDepth 10000 in
theorem tw_551 : (Jvm.Cond.selects "WaitedCommits" ({ cls := "WaitedCommits", name := "takePrepare", desc := "(II)V" } : Jvm.MethodName) ({ cls := "WaitedCommits", name := "takePrepare", desc := "(II)V" } : Jvm.MethodName)) ∈ wc_tb := List.mem_of_getElem? (i := 551) rfl
set_option maxRecDepth 10000 in
theorem tw_552 : (Jvm.Cond.selects "WaitedCommits" ({ cls := "WaitedCommits", name := "takePrepared", desc := "(LWaitedCommits$Transaction;)V" } : Jvm.MethodName) ({ cls := "WaitedCommits", name := "takePrepared", desc := "(LWaitedCommits$Transaction;)V" } : Jvm.MethodName)) ∈ wc_tb := List.mem_of_getElem? (i := 552) rfl
set_option maxRecDepth 10000 in
theorem tw_553 : (Jvm.Cond.selects "WaitedCommits" ({ cls := "WaitedCommits", name := "finishAt", desc := "(LWaitedCommits$Transaction;I)V" } : Jvm.MethodName) ({ cls := "WaitedCommits", name := "finishAt", desc := "(LWaitedCommits$Transaction;I)V" } : Jvm.MethodName)) ∈ wc_tb := List.mem_of_getElem? (i := 553) rfl
set_option maxRecDepth 10000 in
theorem tw_554 : (Jvm.Cond.selects "WaitedCommits$Key" ({ cls := "WaitedCommits$Key", name := "add", desc := "(II)V" } : Jvm.MethodName) ({ cls := "WaitedCommits$Key", name := "add", desc := "(II)V" } : Jvm.MethodName)) ∈ wc_tb := List.mem_of_getElem? (i := 554) rfl
set_option maxRecDepth 10000 in
theorem tw_555 : (Jvm.Cond.selects "WaitedCommits" ({ cls := "WaitedCommits", name := "endWaiting", desc := "()I" } : Jvm.MethodName) ({ cls := "WaitedCommits", name := "endWaiting", desc := "()I" } : Jvm.MethodName)) ∈ wc_tb := List.mem_of_getElem? (i := 555) rfl
set_option maxRecDepth 10000 in
theorem tw_556 : (Jvm.Cond.selects "WaitedCommits" ({ cls := "WaitedCommits", name := "mayEnd", desc := "(LWaitedCommits$Transaction;)Z" } : Jvm.MethodName) ({ cls := "WaitedCommits", name := "mayEnd", desc := "(LWaitedCommits$Transaction;)Z" } : Jvm.MethodName)) ∈ wc_tb := List.mem_of_getElem? (i := 556) rfl
set_option maxRecDepth 10000 in
theorem tw_557 : (Jvm.Cond.selects "WaitedCommits" ({ cls := "WaitedCommits", name := "earliest", desc := "(I)I" } : Jvm.MethodName) ({ cls := "WaitedCommits", name := "earliest", desc := "(I)I" } : Jvm.MethodName)) ∈ wc_tb := List.mem_of_getElem? (i := 557) rfl
set_option maxRecDepth 10000 in
theorem tw_558 : (Jvm.Cond.selects "WaitedCommits" ({ cls := "WaitedCommits", name := "endOne", desc := "(I)V" } : Jvm.MethodName) ({ cls := "WaitedCommits", name := "endOne", desc := "(I)V" } : Jvm.MethodName)) ∈ wc_tb := List.mem_of_getElem? (i := 558) rfl
set_option maxRecDepth 10000 in
theorem tw_559 : (Jvm.Cond.selects "WaitedCommitsModel" ({ cls := "WaitedCommitsModel", name := "least", desc := "(I)I" } : Jvm.MethodName) ({ cls := "WaitedCommitsModel", name := "least", desc := "(I)I" } : Jvm.MethodName)) ∈ wc_tb := List.mem_of_getElem? (i := 559) rfl
set_option maxRecDepth 10000 in
theorem tw_560 : (Jvm.Cond.selects "WaitedCommitsModel" ({ cls := "WaitedCommitsModel", name := "takesPart", desc := "(II)Z" } : Jvm.MethodName) ({ cls := "WaitedCommitsModel", name := "takesPart", desc := "(II)Z" } : Jvm.MethodName)) ∈ wc_tb := List.mem_of_getElem? (i := 560) rfl
set_option maxRecDepth 10000 in
theorem tw_561 : (Jvm.Cond.selects "WaitedCommitsModel" ({ cls := "WaitedCommitsModel", name := "forget", desc := "(I)V" } : Jvm.MethodName) ({ cls := "WaitedCommitsModel", name := "forget", desc := "(I)V" } : Jvm.MethodName)) ∈ wc_tb := List.mem_of_getElem? (i := 561) rfl
set_option maxRecDepth 10000 in
theorem tw_562 : (Jvm.Cond.selects "WaitedCommitsModel" ({ cls := "WaitedCommitsModel", name := "active", desc := "(I)Z" } : Jvm.MethodName) ({ cls := "WaitedCommitsModel", name := "active", desc := "(I)Z" } : Jvm.MethodName)) ∈ wc_tb := List.mem_of_getElem? (i := 562) rfl
set_option maxRecDepth 10000 in
theorem tw_563 : (Jvm.Cond.selects "WaitedCommitsModel" ({ cls := "WaitedCommitsModel", name := "take", desc := "(III)Z" } : Jvm.MethodName) ({ cls := "WaitedCommitsModel", name := "take", desc := "(III)Z" } : Jvm.MethodName)) ∈ wc_tb := List.mem_of_getElem? (i := 563) rfl
set_option maxRecDepth 10000 in
theorem tw_564 : (Jvm.Cond.selects "WaitedCommitsModel" ({ cls := "WaitedCommitsModel", name := "conflicts", desc := "(IIII)Z" } : Jvm.MethodName) ({ cls := "WaitedCommitsModel", name := "conflicts", desc := "(IIII)Z" } : Jvm.MethodName)) ∈ wc_tb := List.mem_of_getElem? (i := 564) rfl
set_option maxRecDepth 10000 in
theorem tw_565 : (Jvm.Cond.selects "WaitedCommitsModel" ({ cls := "WaitedCommitsModel", name := "drop", desc := "(I)V" } : Jvm.MethodName) ({ cls := "WaitedCommitsModel", name := "drop", desc := "(I)V" } : Jvm.MethodName)) ∈ wc_tb := List.mem_of_getElem? (i := 565) rfl
set_option maxRecDepth 10000 in
theorem tw_566 : (Jvm.Cond.selects "WaitedCommitsModel" ({ cls := "WaitedCommitsModel", name := "find", desc := "(II)I" } : Jvm.MethodName) ({ cls := "WaitedCommitsModel", name := "find", desc := "(II)I" } : Jvm.MethodName)) ∈ wc_tb := List.mem_of_getElem? (i := 566) rfl
set_option maxRecDepth 10000 in
theorem tw_567 : (Jvm.Cond.selects "WaitedCommitsModel" ({ cls := "WaitedCommitsModel", name := "sendAll", desc := "(III)V" } : Jvm.MethodName) ({ cls := "WaitedCommitsModel", name := "sendAll", desc := "(III)V" } : Jvm.MethodName)) ∈ wc_tb := List.mem_of_getElem? (i := 567) rfl
set_option maxRecDepth 10000 in
theorem tw_568 : (Jvm.Cond.selects "WaitedCommitsModel" ({ cls := "WaitedCommitsModel", name := "send", desc := "(IIII)V" } : Jvm.MethodName) ({ cls := "WaitedCommitsModel", name := "send", desc := "(IIII)V" } : Jvm.MethodName)) ∈ wc_tb := List.mem_of_getElem? (i := 568) rfl
set_option maxRecDepth 10000 in
theorem tw_569 : (Jvm.Cond.selects "WaitedCommitsModel" ({ cls := "WaitedCommitsModel", name := "stampIfAll", desc := "(I)V" } : Jvm.MethodName) ({ cls := "WaitedCommitsModel", name := "stampIfAll", desc := "(I)V" } : Jvm.MethodName)) ∈ wc_tb := List.mem_of_getElem? (i := 569) rfl
set_option maxRecDepth 10000 in
theorem tw_570 : (Jvm.Cond.selects "WaitedCommitsModel" ({ cls := "WaitedCommitsModel", name := "put", desc := "(III)V" } : Jvm.MethodName) ({ cls := "WaitedCommitsModel", name := "put", desc := "(III)V" } : Jvm.MethodName)) ∈ wc_tb := List.mem_of_getElem? (i := 570) rfl
set_option maxRecDepth 10000 in
theorem tw_571 : (Jvm.Cond.selects "WaitedCommitsModel" ({ cls := "WaitedCommitsModel", name := "next", desc := "()I" } : Jvm.MethodName) ({ cls := "WaitedCommitsModel", name := "next", desc := "()I" } : Jvm.MethodName)) ∈ wc_tb := List.mem_of_getElem? (i := 571) rfl
set_option maxRecDepth 10000 in
theorem tw_572 : (Jvm.Cond.selects "WaitedCommitsModel" ({ cls := "WaitedCommitsModel", name := "deal", desc := "(I)V" } : Jvm.MethodName) ({ cls := "WaitedCommitsModel", name := "deal", desc := "(I)V" } : Jvm.MethodName)) ∈ wc_tb := List.mem_of_getElem? (i := 572) rfl
set_option maxRecDepth 10000 in
theorem tw_573 : (Jvm.Cond.selects "WaitedCommitsModel" ({ cls := "WaitedCommitsModel", name := "finish", desc := "(II)V" } : Jvm.MethodName) ({ cls := "WaitedCommitsModel", name := "finish", desc := "(II)V" } : Jvm.MethodName)) ∈ wc_tb := List.mem_of_getElem? (i := 573) rfl
set_option maxRecDepth 10000 in
theorem tw_574 : (Jvm.Cond.selects "WaitedCommitsModel" ({ cls := "WaitedCommitsModel", name := "raise", desc := "(II)V" } : Jvm.MethodName) ({ cls := "WaitedCommitsModel", name := "raise", desc := "(II)V" } : Jvm.MethodName)) ∈ wc_tb := List.mem_of_getElem? (i := 574) rfl
end
section
/-! The state of the system: one function of component, object, place; and the cells that hold it. -/
abbrev wc_St : Type := Nat → Nat → Nat → Int32
def wc_st (σ : wc_St) (c i j : Nat) (x : Int32) : wc_St := fun c' i' j' => if c' = c ∧ i' = i ∧ j' = j then x else σ c' i' j'
theorem wc_st_ne {σ : wc_St} {c i j c' i' : Nat} {x : Int32} (h : i' ≠ i) : wc_st σ c i j x c' i' = σ c' i' := by
  funext j'
  simp [wc_st, h]
theorem wc_st_at {σ : wc_St} {c i j : Nat} {x : Int32} : wc_st σ c i j x c i = upd (σ c i) j x := by
  funext j'
  simp [wc_st, upd]
theorem wc_st_self {σ : wc_St} {c i j : Nat} {x : Int32} : wc_st σ c i j x c i j = x := by
  simp [wc_st]
abbrev wc_G : Type := va_G × (Nat → ClassId) × (Nat → Nat)
def wc_tys (Γ : wc_G) : List (ClassId × FieldType) := [(Γ.2.1 0, .int), (Γ.2.1 1, .boolean), (Γ.2.1 2, .object "WaitedCommits$Site"), (Γ.2.1 3, .object "WaitedCommits$Key"), (Γ.2.1 4, .object "WaitedCommits$Transaction"), (Γ.2.1 5, .object "WaitedCommits$Message")]
def wc_cell (Γ : wc_G) (σ μ : wc_St) (q : Nat) : va_E :=
  if q < 1 then .inr (0, [.int (σ 22 0 0), .ref (Γ.2.2 1), .ref (Γ.2.2 2), .ref (Γ.2.2 3), .ref (Γ.2.2 4), .int (σ 23 0 0), .int (σ 24 0 0), .int (σ 25 0 0), .int (σ 26 0 0)]) else
  if q < 2 then .inl (Γ.2.1 2, 3, .inr (.inr (.inr (.inr (fun j => some (Γ.2.2 (5 + j))))))) else
  if q < 3 then .inl (Γ.2.1 3, 9, .inr (.inr (.inr (.inr (fun j => some (Γ.2.2 (8 + j))))))) else
  if q < 4 then .inl (Γ.2.1 4, 5, .inr (.inr (.inr (.inr (fun j => some (Γ.2.2 (35 + j))))))) else
  if q < 5 then .inl (Γ.2.1 5, 15, .inr (.inr (.inr (.inr (fun j => some (Γ.2.2 (55 + j))))))) else
  if q < 8 then .inr (1, [.int (σ 0 (q - 5) 0), .int (σ 1 (q - 5) 0), .int (σ 2 (q - 5) 0), .int (σ 3 (q - 5) 0), .int (σ 4 (q - 5) 0)]) else
  if q < 17 then .inr (2, [.ref (Γ.2.2 (17 + (q - 8))), .ref (Γ.2.2 (26 + (q - 8))), .int (σ 5 (q - 8) 0)]) else
  if q < 26 then .inl (Γ.2.1 0, 4, .inl (σ 6 (q - 17))) else
  if q < 35 then .inl (Γ.2.1 0, 4, .inl (σ 7 (q - 26))) else
  if q < 40 then .inr (3, [.int (σ 8 (q - 35) 0), .int (σ 9 (q - 35) 0), .int (σ 10 (q - 35) 0), .int (σ 11 (q - 35) 0), .int (σ 12 (q - 35) 0), .int (σ 13 (q - 35) 0), .int (σ 14 (q - 35) 0), .ref (Γ.2.2 (40 + (q - 35))), .ref (Γ.2.2 (45 + (q - 35))), .ref (Γ.2.2 (50 + (q - 35)))]) else
  if q < 45 then .inl (Γ.2.1 0, 9, .inl (σ 15 (q - 40))) else
  if q < 50 then .inl (Γ.2.1 0, 9, .inl (σ 16 (q - 45))) else
  if q < 55 then .inl (Γ.2.1 0, 3, .inl (σ 17 (q - 50))) else
  if q < 70 then .inr (4, [.int (nI ((q - 55) / 3)), .int (nI ((q - 55) % 3)), .int (σ 18 (q - 55) 0), .int (σ 19 (q - 55) 0), .int (σ 20 (q - 55) 0), .int (σ 21 (q - 55) 0)]) else
  if q < 71 then .inr (5, [.int (μ 30 0 0), .int (μ 31 0 0), .ref (Γ.2.2 71), .ref (Γ.2.2 72), .ref (Γ.2.2 73), .ref (Γ.2.2 74), .ref (Γ.2.2 75), .int (μ 37 0 0), .ref (Γ.2.2 76), .ref (Γ.2.2 77), .ref (Γ.2.2 78), .int (μ 41 0 0), .ref (Γ.2.2 79), .ref (Γ.2.2 80), .ref (Γ.2.2 81), .ref (Γ.2.2 82), .ref (Γ.2.2 83), .ref (Γ.2.2 84), .ref (Γ.2.2 85), .ref (Γ.2.2 86), .ref (Γ.2.2 87), .ref (Γ.2.2 88), .int (μ 52 0 0), .ref (Γ.2.2 89), .ref (Γ.2.2 90)]) else
  if q < 72 then .inl (Γ.2.1 0, 3, .inl (μ 32 0)) else
  if q < 73 then .inl (Γ.2.1 0, 3, .inl (μ 33 0)) else
  if q < 74 then .inl (Γ.2.1 0, 3, .inl (μ 34 0)) else
  if q < 75 then .inl (Γ.2.1 1, 3, .inl (μ 35 0)) else
  if q < 76 then .inl (Γ.2.1 0, 3, .inl (μ 36 0)) else
  if q < 77 then .inl (Γ.2.1 0, 512, .inl (μ 38 0)) else
  if q < 78 then .inl (Γ.2.1 0, 512, .inl (μ 39 0)) else
  if q < 79 then .inl (Γ.2.1 0, 512, .inl (μ 40 0)) else
  if q < 80 then .inl (Γ.2.1 0, 5, .inl (μ 42 0)) else
  if q < 81 then .inl (Γ.2.1 0, 5, .inl (μ 43 0)) else
  if q < 82 then .inl (Γ.2.1 0, 5, .inl (μ 44 0)) else
  if q < 83 then .inl (Γ.2.1 0, 5, .inl (μ 45 0)) else
  if q < 84 then .inl (Γ.2.1 0, 5, .inl (μ 46 0)) else
  if q < 85 then .inl (Γ.2.1 0, 45, .inl (μ 47 0)) else
  if q < 86 then .inl (Γ.2.1 1, 45, .inl (μ 48 0)) else
  if q < 87 then .inl (Γ.2.1 0, 45, .inl (μ 49 0)) else
  if q < 88 then .inl (Γ.2.1 1, 15, .inl (μ 50 0)) else
  if q < 89 then .inl (Γ.2.1 0, 15, .inl (μ 51 0)) else
  if q < 90 then .inl (Γ.2.1 0, 45, .inl (μ 53 0)) else
  if q < 91 then .inl (Γ.2.1 0, 45, .inl (μ 54 0)) else
  .inr (0, [])
def wc_wl (Γ : wc_G) (σ μ : wc_St) : va_W := (List.range 91).map (fun q => (Γ.2.2 q, wc_cell Γ σ μ q))
theorem wc_at {Γ : wc_G} {σ μ : wc_St} {q : Nat} {e : va_E} (hq : q < 91) (h : wc_cell Γ σ μ q = e) : (wc_wl Γ σ μ)[q]? = some (Γ.2.2 q, e) := by
  subst h
  simp [wc_wl, hq]
theorem wc_set {Γ : wc_G} {σ μ σ' μ' : wc_St} {q : Nat} {e : va_E} (h : wc_cell Γ σ' μ' q = e) (ho : ∀ j, j ≠ q → wc_cell Γ σ' μ' j = wc_cell Γ σ μ j) : (wc_wl Γ σ μ).set q (Γ.2.2 q, e) = wc_wl Γ σ' μ' := by
  subst h
  apply List.ext_getElem?
  intro j
  by_cases hj : j = q
  · subst hj
    rw [List.getElem?_set_self']
    by_cases hq : j < 91
    · simp [wc_wl, hq]
    · simp [wc_wl, hq]
  · rw [List.getElem?_set_ne (Ne.symm hj)]
    by_cases hq : j < 91
    · simp [wc_wl, hq, ho j hj]
    · simp [wc_wl, hq]
theorem wc_ite {α : Type} {P : Prop} [Decidable P] {a b a' b' : α} (h1 : P → a = a') (h2 : ¬ P → b = b') : (if P then a else b) = (if P then a' else b') := by
  by_cases h : P
  · rw [if_pos h, if_pos h, h1 h]
  · rw [if_neg h, if_neg h, h2 h]
theorem wc_inj {Γ : wc_G} {σ μ : wc_St} {A : Nat → Prop} (hD : va_D A (wc_wl Γ σ μ)) {a b : Nat} (ha : a < 91) (hb : b < 91) (h : Γ.2.2 a = Γ.2.2 b) : a = b :=
  hD.1 a b _ _ (wc_at ha rfl) (wc_at hb rfl) h
-- each kind's cell
theorem wc_c_WC {Γ : wc_G} {σ μ : wc_St} : wc_cell Γ σ μ (0) = .inr (0, [.int (σ 22 0 0), .ref (Γ.2.2 1), .ref (Γ.2.2 2), .ref (Γ.2.2 3), .ref (Γ.2.2 4), .int (σ 23 0 0), .int (σ 24 0 0), .int (σ 25 0 0), .int (σ 26 0 0)]) := by
  unfold wc_cell
  rw [if_pos (show 0 < 1 by omega)]
theorem wc_c_sites {Γ : wc_G} {σ μ : wc_St} : wc_cell Γ σ μ (1) = .inl (Γ.2.1 2, 3, .inr (.inr (.inr (.inr (fun j => some (Γ.2.2 (5 + j))))))) := by
  unfold wc_cell
  rw [if_neg (show ¬ 1 < 1 by omega), if_pos (show 1 < 2 by omega)]
theorem wc_c_keys {Γ : wc_G} {σ μ : wc_St} : wc_cell Γ σ μ (2) = .inl (Γ.2.1 3, 9, .inr (.inr (.inr (.inr (fun j => some (Γ.2.2 (8 + j))))))) := by
  unfold wc_cell
  rw [if_neg (show ¬ 2 < 1 by omega), if_neg (show ¬ 2 < 2 by omega), if_pos (show 2 < 3 by omega)]
theorem wc_c_txs {Γ : wc_G} {σ μ : wc_St} : wc_cell Γ σ μ (3) = .inl (Γ.2.1 4, 5, .inr (.inr (.inr (.inr (fun j => some (Γ.2.2 (35 + j))))))) := by
  unfold wc_cell
  rw [if_neg (show ¬ 3 < 1 by omega), if_neg (show ¬ 3 < 2 by omega), if_neg (show ¬ 3 < 3 by omega), if_pos (show 3 < 4 by omega)]
theorem wc_c_slots {Γ : wc_G} {σ μ : wc_St} : wc_cell Γ σ μ (4) = .inl (Γ.2.1 5, 15, .inr (.inr (.inr (.inr (fun j => some (Γ.2.2 (55 + j))))))) := by
  unfold wc_cell
  rw [if_neg (show ¬ 4 < 1 by omega), if_neg (show ¬ 4 < 2 by omega), if_neg (show ¬ 4 < 3 by omega), if_neg (show ¬ 4 < 4 by omega), if_pos (show 4 < 5 by omega)]
theorem wc_c_Site {Γ : wc_G} {σ μ : wc_St} {i : Nat} (h : i < 3) : wc_cell Γ σ μ (5 + i) = .inr (1, [.int (σ 0 i 0), .int (σ 1 i 0), .int (σ 2 i 0), .int (σ 3 i 0), .int (σ 4 i 0)]) := by
  unfold wc_cell
  rw [if_neg (show ¬ 5 + i < 1 by omega), if_neg (show ¬ 5 + i < 2 by omega), if_neg (show ¬ 5 + i < 3 by omega), if_neg (show ¬ 5 + i < 4 by omega), if_neg (show ¬ 5 + i < 5 by omega), if_pos (show 5 + i < 8 by omega)]
  rw [show 5 + i - 5 = i by omega]
theorem wc_c_Key {Γ : wc_G} {σ μ : wc_St} {i : Nat} (h : i < 9) : wc_cell Γ σ μ (8 + i) = .inr (2, [.ref (Γ.2.2 (17 + i)), .ref (Γ.2.2 (26 + i)), .int (σ 5 i 0)]) := by
  unfold wc_cell
  rw [if_neg (show ¬ 8 + i < 1 by omega), if_neg (show ¬ 8 + i < 2 by omega), if_neg (show ¬ 8 + i < 3 by omega), if_neg (show ¬ 8 + i < 4 by omega), if_neg (show ¬ 8 + i < 5 by omega), if_neg (show ¬ 8 + i < 8 by omega), if_pos (show 8 + i < 17 by omega)]
  rw [show 8 + i - 8 = i by omega]
theorem wc_c_values {Γ : wc_G} {σ μ : wc_St} {i : Nat} (h : i < 9) : wc_cell Γ σ μ (17 + i) = .inl (Γ.2.1 0, 4, .inl (σ 6 i)) := by
  unfold wc_cell
  rw [if_neg (show ¬ 17 + i < 1 by omega), if_neg (show ¬ 17 + i < 2 by omega), if_neg (show ¬ 17 + i < 3 by omega), if_neg (show ¬ 17 + i < 4 by omega), if_neg (show ¬ 17 + i < 5 by omega), if_neg (show ¬ 17 + i < 8 by omega), if_neg (show ¬ 17 + i < 17 by omega), if_pos (show 17 + i < 26 by omega)]
  rw [show 17 + i - 17 = i by omega]
theorem wc_c_stamps {Γ : wc_G} {σ μ : wc_St} {i : Nat} (h : i < 9) : wc_cell Γ σ μ (26 + i) = .inl (Γ.2.1 0, 4, .inl (σ 7 i)) := by
  unfold wc_cell
  rw [if_neg (show ¬ 26 + i < 1 by omega), if_neg (show ¬ 26 + i < 2 by omega), if_neg (show ¬ 26 + i < 3 by omega), if_neg (show ¬ 26 + i < 4 by omega), if_neg (show ¬ 26 + i < 5 by omega), if_neg (show ¬ 26 + i < 8 by omega), if_neg (show ¬ 26 + i < 17 by omega), if_neg (show ¬ 26 + i < 26 by omega), if_pos (show 26 + i < 35 by omega)]
  rw [show 26 + i - 26 = i by omega]
theorem wc_c_Tx {Γ : wc_G} {σ μ : wc_St} {i : Nat} (h : i < 5) : wc_cell Γ σ μ (35 + i) = .inr (3, [.int (σ 8 i 0), .int (σ 9 i 0), .int (σ 10 i 0), .int (σ 11 i 0), .int (σ 12 i 0), .int (σ 13 i 0), .int (σ 14 i 0), .ref (Γ.2.2 (40 + i)), .ref (Γ.2.2 (45 + i)), .ref (Γ.2.2 (50 + i))]) := by
  unfold wc_cell
  rw [if_neg (show ¬ 35 + i < 1 by omega), if_neg (show ¬ 35 + i < 2 by omega), if_neg (show ¬ 35 + i < 3 by omega), if_neg (show ¬ 35 + i < 4 by omega), if_neg (show ¬ 35 + i < 5 by omega), if_neg (show ¬ 35 + i < 8 by omega), if_neg (show ¬ 35 + i < 17 by omega), if_neg (show ¬ 35 + i < 26 by omega), if_neg (show ¬ 35 + i < 35 by omega), if_pos (show 35 + i < 40 by omega)]
  rw [show 35 + i - 35 = i by omega]
theorem wc_c_locks {Γ : wc_G} {σ μ : wc_St} {i : Nat} (h : i < 5) : wc_cell Γ σ μ (40 + i) = .inl (Γ.2.1 0, 9, .inl (σ 15 i)) := by
  unfold wc_cell
  rw [if_neg (show ¬ 40 + i < 1 by omega), if_neg (show ¬ 40 + i < 2 by omega), if_neg (show ¬ 40 + i < 3 by omega), if_neg (show ¬ 40 + i < 4 by omega), if_neg (show ¬ 40 + i < 5 by omega), if_neg (show ¬ 40 + i < 8 by omega), if_neg (show ¬ 40 + i < 17 by omega), if_neg (show ¬ 40 + i < 26 by omega), if_neg (show ¬ 40 + i < 35 by omega), if_neg (show ¬ 40 + i < 40 by omega), if_pos (show 40 + i < 45 by omega)]
  rw [show 40 + i - 40 = i by omega]
theorem wc_c_written {Γ : wc_G} {σ μ : wc_St} {i : Nat} (h : i < 5) : wc_cell Γ σ μ (45 + i) = .inl (Γ.2.1 0, 9, .inl (σ 16 i)) := by
  unfold wc_cell
  rw [if_neg (show ¬ 45 + i < 1 by omega), if_neg (show ¬ 45 + i < 2 by omega), if_neg (show ¬ 45 + i < 3 by omega), if_neg (show ¬ 45 + i < 4 by omega), if_neg (show ¬ 45 + i < 5 by omega), if_neg (show ¬ 45 + i < 8 by omega), if_neg (show ¬ 45 + i < 17 by omega), if_neg (show ¬ 45 + i < 26 by omega), if_neg (show ¬ 45 + i < 35 by omega), if_neg (show ¬ 45 + i < 40 by omega), if_neg (show ¬ 45 + i < 45 by omega), if_pos (show 45 + i < 50 by omega)]
  rw [show 45 + i - 45 = i by omega]
theorem wc_c_marks {Γ : wc_G} {σ μ : wc_St} {i : Nat} (h : i < 5) : wc_cell Γ σ μ (50 + i) = .inl (Γ.2.1 0, 3, .inl (σ 17 i)) := by
  unfold wc_cell
  rw [if_neg (show ¬ 50 + i < 1 by omega), if_neg (show ¬ 50 + i < 2 by omega), if_neg (show ¬ 50 + i < 3 by omega), if_neg (show ¬ 50 + i < 4 by omega), if_neg (show ¬ 50 + i < 5 by omega), if_neg (show ¬ 50 + i < 8 by omega), if_neg (show ¬ 50 + i < 17 by omega), if_neg (show ¬ 50 + i < 26 by omega), if_neg (show ¬ 50 + i < 35 by omega), if_neg (show ¬ 50 + i < 40 by omega), if_neg (show ¬ 50 + i < 45 by omega), if_neg (show ¬ 50 + i < 50 by omega)]
  rw [if_pos (show 50 + i < 55 by omega)]
  rw [show 50 + i - 50 = i by omega]
theorem wc_c_Msg {Γ : wc_G} {σ μ : wc_St} {i : Nat} (h : i < 15) : wc_cell Γ σ μ (55 + i) = .inr (4, [.int (nI (i / 3)), .int (nI (i % 3)), .int (σ 18 i 0), .int (σ 19 i 0), .int (σ 20 i 0), .int (σ 21 i 0)]) := by
  unfold wc_cell
  rw [if_neg (show ¬ 55 + i < 1 by omega), if_neg (show ¬ 55 + i < 2 by omega), if_neg (show ¬ 55 + i < 3 by omega), if_neg (show ¬ 55 + i < 4 by omega), if_neg (show ¬ 55 + i < 5 by omega), if_neg (show ¬ 55 + i < 8 by omega), if_neg (show ¬ 55 + i < 17 by omega), if_neg (show ¬ 55 + i < 26 by omega), if_neg (show ¬ 55 + i < 35 by omega), if_neg (show ¬ 55 + i < 40 by omega), if_neg (show ¬ 55 + i < 45 by omega), if_neg (show ¬ 55 + i < 50 by omega)]
  rw [if_neg (show ¬ 55 + i < 55 by omega), if_pos (show 55 + i < 70 by omega)]
  rw [show 55 + i - 55 = i by omega]
theorem wc_c_Model {Γ : wc_G} {σ μ : wc_St} : wc_cell Γ σ μ (70) = .inr (5, [.int (μ 30 0 0), .int (μ 31 0 0), .ref (Γ.2.2 71), .ref (Γ.2.2 72), .ref (Γ.2.2 73), .ref (Γ.2.2 74), .ref (Γ.2.2 75), .int (μ 37 0 0), .ref (Γ.2.2 76), .ref (Γ.2.2 77), .ref (Γ.2.2 78), .int (μ 41 0 0), .ref (Γ.2.2 79), .ref (Γ.2.2 80), .ref (Γ.2.2 81), .ref (Γ.2.2 82), .ref (Γ.2.2 83), .ref (Γ.2.2 84), .ref (Γ.2.2 85), .ref (Γ.2.2 86), .ref (Γ.2.2 87), .ref (Γ.2.2 88), .int (μ 52 0 0), .ref (Γ.2.2 89), .ref (Γ.2.2 90)]) := by
  unfold wc_cell
  rw [if_neg (show ¬ 70 < 1 by omega), if_neg (show ¬ 70 < 2 by omega), if_neg (show ¬ 70 < 3 by omega), if_neg (show ¬ 70 < 4 by omega), if_neg (show ¬ 70 < 5 by omega), if_neg (show ¬ 70 < 8 by omega), if_neg (show ¬ 70 < 17 by omega), if_neg (show ¬ 70 < 26 by omega), if_neg (show ¬ 70 < 35 by omega), if_neg (show ¬ 70 < 40 by omega), if_neg (show ¬ 70 < 45 by omega), if_neg (show ¬ 70 < 50 by omega)]
  rw [if_neg (show ¬ 70 < 55 by omega), if_neg (show ¬ 70 < 70 by omega), if_pos (show 70 < 71 by omega)]
theorem wc_c_m_early {Γ : wc_G} {σ μ : wc_St} : wc_cell Γ σ μ (71) = .inl (Γ.2.1 0, 3, .inl (μ 32 0)) := by
  unfold wc_cell
  rw [if_neg (show ¬ 71 < 1 by omega), if_neg (show ¬ 71 < 2 by omega), if_neg (show ¬ 71 < 3 by omega), if_neg (show ¬ 71 < 4 by omega), if_neg (show ¬ 71 < 5 by omega), if_neg (show ¬ 71 < 8 by omega), if_neg (show ¬ 71 < 17 by omega), if_neg (show ¬ 71 < 26 by omega), if_neg (show ¬ 71 < 35 by omega), if_neg (show ¬ 71 < 40 by omega), if_neg (show ¬ 71 < 45 by omega), if_neg (show ¬ 71 < 50 by omega)]
  rw [if_neg (show ¬ 71 < 55 by omega), if_neg (show ¬ 71 < 70 by omega), if_neg (show ¬ 71 < 71 by omega), if_pos (show 71 < 72 by omega)]
theorem wc_c_m_late {Γ : wc_G} {σ μ : wc_St} : wc_cell Γ σ μ (72) = .inl (Γ.2.1 0, 3, .inl (μ 33 0)) := by
  unfold wc_cell
  rw [if_neg (show ¬ 72 < 1 by omega), if_neg (show ¬ 72 < 2 by omega), if_neg (show ¬ 72 < 3 by omega), if_neg (show ¬ 72 < 4 by omega), if_neg (show ¬ 72 < 5 by omega), if_neg (show ¬ 72 < 8 by omega), if_neg (show ¬ 72 < 17 by omega), if_neg (show ¬ 72 < 26 by omega), if_neg (show ¬ 72 < 35 by omega), if_neg (show ¬ 72 < 40 by omega), if_neg (show ¬ 72 < 45 by omega), if_neg (show ¬ 72 < 50 by omega)]
  rw [if_neg (show ¬ 72 < 55 by omega), if_neg (show ¬ 72 < 70 by omega), if_neg (show ¬ 72 < 71 by omega), if_neg (show ¬ 72 < 72 by omega), if_pos (show 72 < 73 by omega)]
theorem wc_c_m_slow {Γ : wc_G} {σ μ : wc_St} : wc_cell Γ σ μ (73) = .inl (Γ.2.1 0, 3, .inl (μ 34 0)) := by
  unfold wc_cell
  rw [if_neg (show ¬ 73 < 1 by omega), if_neg (show ¬ 73 < 2 by omega), if_neg (show ¬ 73 < 3 by omega), if_neg (show ¬ 73 < 4 by omega), if_neg (show ¬ 73 < 5 by omega), if_neg (show ¬ 73 < 8 by omega), if_neg (show ¬ 73 < 17 by omega), if_neg (show ¬ 73 < 26 by omega), if_neg (show ¬ 73 < 35 by omega), if_neg (show ¬ 73 < 40 by omega), if_neg (show ¬ 73 < 45 by omega), if_neg (show ¬ 73 < 50 by omega)]
  rw [if_neg (show ¬ 73 < 55 by omega), if_neg (show ¬ 73 < 70 by omega), if_neg (show ¬ 73 < 71 by omega), if_neg (show ¬ 73 < 72 by omega), if_neg (show ¬ 73 < 73 by omega), if_pos (show 73 < 74 by omega)]
theorem wc_c_m_down {Γ : wc_G} {σ μ : wc_St} : wc_cell Γ σ μ (74) = .inl (Γ.2.1 1, 3, .inl (μ 35 0)) := by
  unfold wc_cell
  rw [if_neg (show ¬ 74 < 1 by omega), if_neg (show ¬ 74 < 2 by omega), if_neg (show ¬ 74 < 3 by omega), if_neg (show ¬ 74 < 4 by omega), if_neg (show ¬ 74 < 5 by omega), if_neg (show ¬ 74 < 8 by omega), if_neg (show ¬ 74 < 17 by omega), if_neg (show ¬ 74 < 26 by omega), if_neg (show ¬ 74 < 35 by omega), if_neg (show ¬ 74 < 40 by omega), if_neg (show ¬ 74 < 45 by omega), if_neg (show ¬ 74 < 50 by omega)]
  rw [if_neg (show ¬ 74 < 55 by omega), if_neg (show ¬ 74 < 70 by omega), if_neg (show ¬ 74 < 71 by omega), if_neg (show ¬ 74 < 72 by omega), if_neg (show ¬ 74 < 73 by omega), if_neg (show ¬ 74 < 74 by omega), if_pos (show 74 < 75 by omega)]
theorem wc_c_m_bound {Γ : wc_G} {σ μ : wc_St} : wc_cell Γ σ μ (75) = .inl (Γ.2.1 0, 3, .inl (μ 36 0)) := by
  unfold wc_cell
  rw [if_neg (show ¬ 75 < 1 by omega), if_neg (show ¬ 75 < 2 by omega), if_neg (show ¬ 75 < 3 by omega), if_neg (show ¬ 75 < 4 by omega), if_neg (show ¬ 75 < 5 by omega), if_neg (show ¬ 75 < 8 by omega), if_neg (show ¬ 75 < 17 by omega), if_neg (show ¬ 75 < 26 by omega), if_neg (show ¬ 75 < 35 by omega), if_neg (show ¬ 75 < 40 by omega), if_neg (show ¬ 75 < 45 by omega), if_neg (show ¬ 75 < 50 by omega)]
  rw [if_neg (show ¬ 75 < 55 by omega), if_neg (show ¬ 75 < 70 by omega), if_neg (show ¬ 75 < 71 by omega), if_neg (show ¬ 75 < 72 by omega), if_neg (show ¬ 75 < 73 by omega), if_neg (show ¬ 75 < 74 by omega), if_neg (show ¬ 75 < 75 by omega), if_pos (show 75 < 76 by omega)]
theorem wc_c_m_versionKey {Γ : wc_G} {σ μ : wc_St} : wc_cell Γ σ μ (76) = .inl (Γ.2.1 0, 512, .inl (μ 38 0)) := by
  unfold wc_cell
  rw [if_neg (show ¬ 76 < 1 by omega), if_neg (show ¬ 76 < 2 by omega), if_neg (show ¬ 76 < 3 by omega), if_neg (show ¬ 76 < 4 by omega), if_neg (show ¬ 76 < 5 by omega), if_neg (show ¬ 76 < 8 by omega), if_neg (show ¬ 76 < 17 by omega), if_neg (show ¬ 76 < 26 by omega), if_neg (show ¬ 76 < 35 by omega), if_neg (show ¬ 76 < 40 by omega), if_neg (show ¬ 76 < 45 by omega), if_neg (show ¬ 76 < 50 by omega)]
  rw [if_neg (show ¬ 76 < 55 by omega), if_neg (show ¬ 76 < 70 by omega), if_neg (show ¬ 76 < 71 by omega), if_neg (show ¬ 76 < 72 by omega), if_neg (show ¬ 76 < 73 by omega), if_neg (show ¬ 76 < 74 by omega), if_neg (show ¬ 76 < 75 by omega), if_neg (show ¬ 76 < 76 by omega), if_pos (show 76 < 77 by omega)]
theorem wc_c_m_versionStamp {Γ : wc_G} {σ μ : wc_St} : wc_cell Γ σ μ (77) = .inl (Γ.2.1 0, 512, .inl (μ 39 0)) := by
  unfold wc_cell
  rw [if_neg (show ¬ 77 < 1 by omega), if_neg (show ¬ 77 < 2 by omega), if_neg (show ¬ 77 < 3 by omega), if_neg (show ¬ 77 < 4 by omega), if_neg (show ¬ 77 < 5 by omega), if_neg (show ¬ 77 < 8 by omega), if_neg (show ¬ 77 < 17 by omega), if_neg (show ¬ 77 < 26 by omega), if_neg (show ¬ 77 < 35 by omega), if_neg (show ¬ 77 < 40 by omega), if_neg (show ¬ 77 < 45 by omega), if_neg (show ¬ 77 < 50 by omega)]
  rw [if_neg (show ¬ 77 < 55 by omega), if_neg (show ¬ 77 < 70 by omega), if_neg (show ¬ 77 < 71 by omega), if_neg (show ¬ 77 < 72 by omega), if_neg (show ¬ 77 < 73 by omega), if_neg (show ¬ 77 < 74 by omega), if_neg (show ¬ 77 < 75 by omega), if_neg (show ¬ 77 < 76 by omega), if_neg (show ¬ 77 < 77 by omega), if_pos (show 77 < 78 by omega)]
theorem wc_c_m_versionValue {Γ : wc_G} {σ μ : wc_St} : wc_cell Γ σ μ (78) = .inl (Γ.2.1 0, 512, .inl (μ 40 0)) := by
  unfold wc_cell
  rw [if_neg (show ¬ 78 < 1 by omega), if_neg (show ¬ 78 < 2 by omega), if_neg (show ¬ 78 < 3 by omega), if_neg (show ¬ 78 < 4 by omega), if_neg (show ¬ 78 < 5 by omega), if_neg (show ¬ 78 < 8 by omega), if_neg (show ¬ 78 < 17 by omega), if_neg (show ¬ 78 < 26 by omega), if_neg (show ¬ 78 < 35 by omega), if_neg (show ¬ 78 < 40 by omega), if_neg (show ¬ 78 < 45 by omega), if_neg (show ¬ 78 < 50 by omega)]
  rw [if_neg (show ¬ 78 < 55 by omega), if_neg (show ¬ 78 < 70 by omega), if_neg (show ¬ 78 < 71 by omega), if_neg (show ¬ 78 < 72 by omega), if_neg (show ¬ 78 < 73 by omega), if_neg (show ¬ 78 < 74 by omega), if_neg (show ¬ 78 < 75 by omega), if_neg (show ¬ 78 < 76 by omega), if_neg (show ¬ 78 < 77 by omega), if_neg (show ¬ 78 < 78 by omega), if_pos (show 78 < 79 by omega)]
theorem wc_c_m_state {Γ : wc_G} {σ μ : wc_St} : wc_cell Γ σ μ (79) = .inl (Γ.2.1 0, 5, .inl (μ 42 0)) := by
  unfold wc_cell
  rw [if_neg (show ¬ 79 < 1 by omega), if_neg (show ¬ 79 < 2 by omega), if_neg (show ¬ 79 < 3 by omega), if_neg (show ¬ 79 < 4 by omega), if_neg (show ¬ 79 < 5 by omega), if_neg (show ¬ 79 < 8 by omega), if_neg (show ¬ 79 < 17 by omega), if_neg (show ¬ 79 < 26 by omega), if_neg (show ¬ 79 < 35 by omega), if_neg (show ¬ 79 < 40 by omega), if_neg (show ¬ 79 < 45 by omega), if_neg (show ¬ 79 < 50 by omega)]
  rw [if_neg (show ¬ 79 < 55 by omega), if_neg (show ¬ 79 < 70 by omega), if_neg (show ¬ 79 < 71 by omega), if_neg (show ¬ 79 < 72 by omega), if_neg (show ¬ 79 < 73 by omega), if_neg (show ¬ 79 < 74 by omega), if_neg (show ¬ 79 < 75 by omega), if_neg (show ¬ 79 < 76 by omega), if_neg (show ¬ 79 < 77 by omega), if_neg (show ¬ 79 < 78 by omega), if_neg (show ¬ 79 < 79 by omega), if_pos (show 79 < 80 by omega)]
theorem wc_c_m_age {Γ : wc_G} {σ μ : wc_St} : wc_cell Γ σ μ (80) = .inl (Γ.2.1 0, 5, .inl (μ 43 0)) := by
  unfold wc_cell
  rw [if_neg (show ¬ 80 < 1 by omega), if_neg (show ¬ 80 < 2 by omega), if_neg (show ¬ 80 < 3 by omega), if_neg (show ¬ 80 < 4 by omega), if_neg (show ¬ 80 < 5 by omega), if_neg (show ¬ 80 < 8 by omega), if_neg (show ¬ 80 < 17 by omega), if_neg (show ¬ 80 < 26 by omega), if_neg (show ¬ 80 < 35 by omega), if_neg (show ¬ 80 < 40 by omega), if_neg (show ¬ 80 < 45 by omega), if_neg (show ¬ 80 < 50 by omega)]
  rw [if_neg (show ¬ 80 < 55 by omega), if_neg (show ¬ 80 < 70 by omega), if_neg (show ¬ 80 < 71 by omega), if_neg (show ¬ 80 < 72 by omega), if_neg (show ¬ 80 < 73 by omega), if_neg (show ¬ 80 < 74 by omega), if_neg (show ¬ 80 < 75 by omega), if_neg (show ¬ 80 < 76 by omega), if_neg (show ¬ 80 < 77 by omega), if_neg (show ¬ 80 < 78 by omega), if_neg (show ¬ 80 < 79 by omega), if_neg (show ¬ 80 < 80 by omega)]
  rw [if_pos (show 80 < 81 by omega)]
theorem wc_c_m_stamp {Γ : wc_G} {σ μ : wc_St} : wc_cell Γ σ μ (81) = .inl (Γ.2.1 0, 5, .inl (μ 44 0)) := by
  unfold wc_cell
  rw [if_neg (show ¬ 81 < 1 by omega), if_neg (show ¬ 81 < 2 by omega), if_neg (show ¬ 81 < 3 by omega), if_neg (show ¬ 81 < 4 by omega), if_neg (show ¬ 81 < 5 by omega), if_neg (show ¬ 81 < 8 by omega), if_neg (show ¬ 81 < 17 by omega), if_neg (show ¬ 81 < 26 by omega), if_neg (show ¬ 81 < 35 by omega), if_neg (show ¬ 81 < 40 by omega), if_neg (show ¬ 81 < 45 by omega), if_neg (show ¬ 81 < 50 by omega)]
  rw [if_neg (show ¬ 81 < 55 by omega), if_neg (show ¬ 81 < 70 by omega), if_neg (show ¬ 81 < 71 by omega), if_neg (show ¬ 81 < 72 by omega), if_neg (show ¬ 81 < 73 by omega), if_neg (show ¬ 81 < 74 by omega), if_neg (show ¬ 81 < 75 by omega), if_neg (show ¬ 81 < 76 by omega), if_neg (show ¬ 81 < 77 by omega), if_neg (show ¬ 81 < 78 by omega), if_neg (show ¬ 81 < 79 by omega), if_neg (show ¬ 81 < 80 by omega)]
  rw [if_neg (show ¬ 81 < 81 by omega), if_pos (show 81 < 82 by omega)]
theorem wc_c_m_floor {Γ : wc_G} {σ μ : wc_St} : wc_cell Γ σ μ (82) = .inl (Γ.2.1 0, 5, .inl (μ 45 0)) := by
  unfold wc_cell
  rw [if_neg (show ¬ 82 < 1 by omega), if_neg (show ¬ 82 < 2 by omega), if_neg (show ¬ 82 < 3 by omega), if_neg (show ¬ 82 < 4 by omega), if_neg (show ¬ 82 < 5 by omega), if_neg (show ¬ 82 < 8 by omega), if_neg (show ¬ 82 < 17 by omega), if_neg (show ¬ 82 < 26 by omega), if_neg (show ¬ 82 < 35 by omega), if_neg (show ¬ 82 < 40 by omega), if_neg (show ¬ 82 < 45 by omega), if_neg (show ¬ 82 < 50 by omega)]
  rw [if_neg (show ¬ 82 < 55 by omega), if_neg (show ¬ 82 < 70 by omega), if_neg (show ¬ 82 < 71 by omega), if_neg (show ¬ 82 < 72 by omega), if_neg (show ¬ 82 < 73 by omega), if_neg (show ¬ 82 < 74 by omega), if_neg (show ¬ 82 < 75 by omega), if_neg (show ¬ 82 < 76 by omega), if_neg (show ¬ 82 < 77 by omega), if_neg (show ¬ 82 < 78 by omega), if_neg (show ¬ 82 < 79 by omega), if_neg (show ¬ 82 < 80 by omega)]
  rw [if_neg (show ¬ 82 < 81 by omega), if_neg (show ¬ 82 < 82 by omega), if_pos (show 82 < 83 by omega)]
theorem wc_c_m_ended {Γ : wc_G} {σ μ : wc_St} : wc_cell Γ σ μ (83) = .inl (Γ.2.1 0, 5, .inl (μ 46 0)) := by
  unfold wc_cell
  rw [if_neg (show ¬ 83 < 1 by omega), if_neg (show ¬ 83 < 2 by omega), if_neg (show ¬ 83 < 3 by omega), if_neg (show ¬ 83 < 4 by omega), if_neg (show ¬ 83 < 5 by omega), if_neg (show ¬ 83 < 8 by omega), if_neg (show ¬ 83 < 17 by omega), if_neg (show ¬ 83 < 26 by omega), if_neg (show ¬ 83 < 35 by omega), if_neg (show ¬ 83 < 40 by omega), if_neg (show ¬ 83 < 45 by omega), if_neg (show ¬ 83 < 50 by omega)]
  rw [if_neg (show ¬ 83 < 55 by omega), if_neg (show ¬ 83 < 70 by omega), if_neg (show ¬ 83 < 71 by omega), if_neg (show ¬ 83 < 72 by omega), if_neg (show ¬ 83 < 73 by omega), if_neg (show ¬ 83 < 74 by omega), if_neg (show ¬ 83 < 75 by omega), if_neg (show ¬ 83 < 76 by omega), if_neg (show ¬ 83 < 77 by omega), if_neg (show ¬ 83 < 78 by omega), if_neg (show ¬ 83 < 79 by omega), if_neg (show ¬ 83 < 80 by omega)]
  rw [if_neg (show ¬ 83 < 81 by omega), if_neg (show ¬ 83 < 82 by omega), if_neg (show ¬ 83 < 83 by omega), if_pos (show 83 < 84 by omega)]
theorem wc_c_m_lock {Γ : wc_G} {σ μ : wc_St} : wc_cell Γ σ μ (84) = .inl (Γ.2.1 0, 45, .inl (μ 47 0)) := by
  unfold wc_cell
  rw [if_neg (show ¬ 84 < 1 by omega), if_neg (show ¬ 84 < 2 by omega), if_neg (show ¬ 84 < 3 by omega), if_neg (show ¬ 84 < 4 by omega), if_neg (show ¬ 84 < 5 by omega), if_neg (show ¬ 84 < 8 by omega), if_neg (show ¬ 84 < 17 by omega), if_neg (show ¬ 84 < 26 by omega), if_neg (show ¬ 84 < 35 by omega), if_neg (show ¬ 84 < 40 by omega), if_neg (show ¬ 84 < 45 by omega), if_neg (show ¬ 84 < 50 by omega)]
  rw [if_neg (show ¬ 84 < 55 by omega), if_neg (show ¬ 84 < 70 by omega), if_neg (show ¬ 84 < 71 by omega), if_neg (show ¬ 84 < 72 by omega), if_neg (show ¬ 84 < 73 by omega), if_neg (show ¬ 84 < 74 by omega), if_neg (show ¬ 84 < 75 by omega), if_neg (show ¬ 84 < 76 by omega), if_neg (show ¬ 84 < 77 by omega), if_neg (show ¬ 84 < 78 by omega), if_neg (show ¬ 84 < 79 by omega), if_neg (show ¬ 84 < 80 by omega)]
  rw [if_neg (show ¬ 84 < 81 by omega), if_neg (show ¬ 84 < 82 by omega), if_neg (show ¬ 84 < 83 by omega), if_neg (show ¬ 84 < 84 by omega), if_pos (show 84 < 85 by omega)]
theorem wc_c_m_wrote {Γ : wc_G} {σ μ : wc_St} : wc_cell Γ σ μ (85) = .inl (Γ.2.1 1, 45, .inl (μ 48 0)) := by
  unfold wc_cell
  rw [if_neg (show ¬ 85 < 1 by omega), if_neg (show ¬ 85 < 2 by omega), if_neg (show ¬ 85 < 3 by omega), if_neg (show ¬ 85 < 4 by omega), if_neg (show ¬ 85 < 5 by omega), if_neg (show ¬ 85 < 8 by omega), if_neg (show ¬ 85 < 17 by omega), if_neg (show ¬ 85 < 26 by omega), if_neg (show ¬ 85 < 35 by omega), if_neg (show ¬ 85 < 40 by omega), if_neg (show ¬ 85 < 45 by omega), if_neg (show ¬ 85 < 50 by omega)]
  rw [if_neg (show ¬ 85 < 55 by omega), if_neg (show ¬ 85 < 70 by omega), if_neg (show ¬ 85 < 71 by omega), if_neg (show ¬ 85 < 72 by omega), if_neg (show ¬ 85 < 73 by omega), if_neg (show ¬ 85 < 74 by omega), if_neg (show ¬ 85 < 75 by omega), if_neg (show ¬ 85 < 76 by omega), if_neg (show ¬ 85 < 77 by omega), if_neg (show ¬ 85 < 78 by omega), if_neg (show ¬ 85 < 79 by omega), if_neg (show ¬ 85 < 80 by omega)]
  rw [if_neg (show ¬ 85 < 81 by omega), if_neg (show ¬ 85 < 82 by omega), if_neg (show ¬ 85 < 83 by omega), if_neg (show ¬ 85 < 84 by omega), if_neg (show ¬ 85 < 85 by omega), if_pos (show 85 < 86 by omega)]
theorem wc_c_m_value {Γ : wc_G} {σ μ : wc_St} : wc_cell Γ σ μ (86) = .inl (Γ.2.1 0, 45, .inl (μ 49 0)) := by
  unfold wc_cell
  rw [if_neg (show ¬ 86 < 1 by omega), if_neg (show ¬ 86 < 2 by omega), if_neg (show ¬ 86 < 3 by omega), if_neg (show ¬ 86 < 4 by omega), if_neg (show ¬ 86 < 5 by omega), if_neg (show ¬ 86 < 8 by omega), if_neg (show ¬ 86 < 17 by omega), if_neg (show ¬ 86 < 26 by omega), if_neg (show ¬ 86 < 35 by omega), if_neg (show ¬ 86 < 40 by omega), if_neg (show ¬ 86 < 45 by omega), if_neg (show ¬ 86 < 50 by omega)]
  rw [if_neg (show ¬ 86 < 55 by omega), if_neg (show ¬ 86 < 70 by omega), if_neg (show ¬ 86 < 71 by omega), if_neg (show ¬ 86 < 72 by omega), if_neg (show ¬ 86 < 73 by omega), if_neg (show ¬ 86 < 74 by omega), if_neg (show ¬ 86 < 75 by omega), if_neg (show ¬ 86 < 76 by omega), if_neg (show ¬ 86 < 77 by omega), if_neg (show ¬ 86 < 78 by omega), if_neg (show ¬ 86 < 79 by omega), if_neg (show ¬ 86 < 80 by omega)]
  rw [if_neg (show ¬ 86 < 81 by omega), if_neg (show ¬ 86 < 82 by omega), if_neg (show ¬ 86 < 83 by omega), if_neg (show ¬ 86 < 84 by omega), if_neg (show ¬ 86 < 85 by omega), if_neg (show ¬ 86 < 86 by omega), if_pos (show 86 < 87 by omega)]
theorem wc_c_m_marked {Γ : wc_G} {σ μ : wc_St} : wc_cell Γ σ μ (87) = .inl (Γ.2.1 1, 15, .inl (μ 50 0)) := by
  unfold wc_cell
  rw [if_neg (show ¬ 87 < 1 by omega), if_neg (show ¬ 87 < 2 by omega), if_neg (show ¬ 87 < 3 by omega), if_neg (show ¬ 87 < 4 by omega), if_neg (show ¬ 87 < 5 by omega), if_neg (show ¬ 87 < 8 by omega), if_neg (show ¬ 87 < 17 by omega), if_neg (show ¬ 87 < 26 by omega), if_neg (show ¬ 87 < 35 by omega), if_neg (show ¬ 87 < 40 by omega), if_neg (show ¬ 87 < 45 by omega), if_neg (show ¬ 87 < 50 by omega)]
  rw [if_neg (show ¬ 87 < 55 by omega), if_neg (show ¬ 87 < 70 by omega), if_neg (show ¬ 87 < 71 by omega), if_neg (show ¬ 87 < 72 by omega), if_neg (show ¬ 87 < 73 by omega), if_neg (show ¬ 87 < 74 by omega), if_neg (show ¬ 87 < 75 by omega), if_neg (show ¬ 87 < 76 by omega), if_neg (show ¬ 87 < 77 by omega), if_neg (show ¬ 87 < 78 by omega), if_neg (show ¬ 87 < 79 by omega), if_neg (show ¬ 87 < 80 by omega)]
  rw [if_neg (show ¬ 87 < 81 by omega), if_neg (show ¬ 87 < 82 by omega), if_neg (show ¬ 87 < 83 by omega), if_neg (show ¬ 87 < 84 by omega), if_neg (show ¬ 87 < 85 by omega), if_neg (show ¬ 87 < 86 by omega), if_neg (show ¬ 87 < 87 by omega), if_pos (show 87 < 88 by omega)]
theorem wc_c_m_mark {Γ : wc_G} {σ μ : wc_St} : wc_cell Γ σ μ (88) = .inl (Γ.2.1 0, 15, .inl (μ 51 0)) := by
  unfold wc_cell
  rw [if_neg (show ¬ 88 < 1 by omega), if_neg (show ¬ 88 < 2 by omega), if_neg (show ¬ 88 < 3 by omega), if_neg (show ¬ 88 < 4 by omega), if_neg (show ¬ 88 < 5 by omega), if_neg (show ¬ 88 < 8 by omega), if_neg (show ¬ 88 < 17 by omega), if_neg (show ¬ 88 < 26 by omega), if_neg (show ¬ 88 < 35 by omega), if_neg (show ¬ 88 < 40 by omega), if_neg (show ¬ 88 < 45 by omega), if_neg (show ¬ 88 < 50 by omega)]
  rw [if_neg (show ¬ 88 < 55 by omega), if_neg (show ¬ 88 < 70 by omega), if_neg (show ¬ 88 < 71 by omega), if_neg (show ¬ 88 < 72 by omega), if_neg (show ¬ 88 < 73 by omega), if_neg (show ¬ 88 < 74 by omega), if_neg (show ¬ 88 < 75 by omega), if_neg (show ¬ 88 < 76 by omega), if_neg (show ¬ 88 < 77 by omega), if_neg (show ¬ 88 < 78 by omega), if_neg (show ¬ 88 < 79 by omega), if_neg (show ¬ 88 < 80 by omega)]
  rw [if_neg (show ¬ 88 < 81 by omega), if_neg (show ¬ 88 < 82 by omega), if_neg (show ¬ 88 < 83 by omega), if_neg (show ¬ 88 < 84 by omega), if_neg (show ¬ 88 < 85 by omega), if_neg (show ¬ 88 < 86 by omega), if_neg (show ¬ 88 < 87 by omega), if_neg (show ¬ 88 < 88 by omega), if_pos (show 88 < 89 by omega)]
theorem wc_c_m_arrives {Γ : wc_G} {σ μ : wc_St} : wc_cell Γ σ μ (89) = .inl (Γ.2.1 0, 45, .inl (μ 53 0)) := by
  unfold wc_cell
  rw [if_neg (show ¬ 89 < 1 by omega), if_neg (show ¬ 89 < 2 by omega), if_neg (show ¬ 89 < 3 by omega), if_neg (show ¬ 89 < 4 by omega), if_neg (show ¬ 89 < 5 by omega), if_neg (show ¬ 89 < 8 by omega), if_neg (show ¬ 89 < 17 by omega), if_neg (show ¬ 89 < 26 by omega), if_neg (show ¬ 89 < 35 by omega), if_neg (show ¬ 89 < 40 by omega), if_neg (show ¬ 89 < 45 by omega), if_neg (show ¬ 89 < 50 by omega)]
  rw [if_neg (show ¬ 89 < 55 by omega), if_neg (show ¬ 89 < 70 by omega), if_neg (show ¬ 89 < 71 by omega), if_neg (show ¬ 89 < 72 by omega), if_neg (show ¬ 89 < 73 by omega), if_neg (show ¬ 89 < 74 by omega), if_neg (show ¬ 89 < 75 by omega), if_neg (show ¬ 89 < 76 by omega), if_neg (show ¬ 89 < 77 by omega), if_neg (show ¬ 89 < 78 by omega), if_neg (show ¬ 89 < 79 by omega), if_neg (show ¬ 89 < 80 by omega)]
  rw [if_neg (show ¬ 89 < 81 by omega), if_neg (show ¬ 89 < 82 by omega), if_neg (show ¬ 89 < 83 by omega), if_neg (show ¬ 89 < 84 by omega), if_neg (show ¬ 89 < 85 by omega), if_neg (show ¬ 89 < 86 by omega), if_neg (show ¬ 89 < 87 by omega), if_neg (show ¬ 89 < 88 by omega), if_neg (show ¬ 89 < 89 by omega), if_pos (show 89 < 90 by omega)]
theorem wc_c_m_number {Γ : wc_G} {σ μ : wc_St} : wc_cell Γ σ μ (90) = .inl (Γ.2.1 0, 45, .inl (μ 54 0)) := by
  unfold wc_cell
  rw [if_neg (show ¬ 90 < 1 by omega), if_neg (show ¬ 90 < 2 by omega), if_neg (show ¬ 90 < 3 by omega), if_neg (show ¬ 90 < 4 by omega), if_neg (show ¬ 90 < 5 by omega), if_neg (show ¬ 90 < 8 by omega), if_neg (show ¬ 90 < 17 by omega), if_neg (show ¬ 90 < 26 by omega), if_neg (show ¬ 90 < 35 by omega), if_neg (show ¬ 90 < 40 by omega), if_neg (show ¬ 90 < 45 by omega), if_neg (show ¬ 90 < 50 by omega)]
  rw [if_neg (show ¬ 90 < 55 by omega), if_neg (show ¬ 90 < 70 by omega), if_neg (show ¬ 90 < 71 by omega), if_neg (show ¬ 90 < 72 by omega), if_neg (show ¬ 90 < 73 by omega), if_neg (show ¬ 90 < 74 by omega), if_neg (show ¬ 90 < 75 by omega), if_neg (show ¬ 90 < 76 by omega), if_neg (show ¬ 90 < 77 by omega), if_neg (show ¬ 90 < 78 by omega), if_neg (show ¬ 90 < 79 by omega), if_neg (show ¬ 90 < 80 by omega)]
  rw [if_neg (show ¬ 90 < 81 by omega), if_neg (show ¬ 90 < 82 by omega), if_neg (show ¬ 90 < 83 by omega), if_neg (show ¬ 90 < 84 by omega), if_neg (show ¬ 90 < 85 by omega), if_neg (show ¬ 90 < 86 by omega), if_neg (show ¬ 90 < 87 by omega), if_neg (show ¬ 90 < 88 by omega), if_neg (show ¬ 90 < 89 by omega), if_neg (show ¬ 90 < 90 by omega), if_pos (show 90 < 91 by omega)]
-- a component's change leaves the other cells
theorem wc_o_GE {Γ : wc_G} {σ μ : wc_St} {j q : Nat} {x : Int32} (h : q ≠ 0) : wc_cell Γ (wc_st σ 22 0 j x) μ q = wc_cell Γ σ μ q := by
  unfold wc_cell
  refine wc_ite (fun _ => False.elim (by omega)) (fun _ => ?_)
  refine wc_ite (fun _ => rfl) (fun _ => ?_)
  refine wc_ite (fun _ => rfl) (fun _ => ?_)
  refine wc_ite (fun _ => rfl) (fun _ => ?_)
  refine wc_ite (fun _ => rfl) (fun _ => ?_)
  refine wc_ite (fun _ => rfl) (fun _ => ?_)
  refine wc_ite (fun _ => rfl) (fun _ => ?_)
  refine wc_ite (fun _ => rfl) (fun _ => ?_)
  refine wc_ite (fun _ => rfl) (fun _ => ?_)
  refine wc_ite (fun _ => rfl) (fun _ => ?_)
  refine wc_ite (fun _ => rfl) (fun _ => ?_)
  refine wc_ite (fun _ => rfl) (fun _ => ?_)
  refine wc_ite (fun _ => rfl) (fun _ => ?_)
  refine wc_ite (fun _ => rfl) (fun _ => ?_)
  refine wc_ite (fun _ => rfl) (fun _ => ?_)
  refine wc_ite (fun _ => rfl) (fun _ => ?_)
  refine wc_ite (fun _ => rfl) (fun _ => ?_)
  refine wc_ite (fun _ => rfl) (fun _ => ?_)
  refine wc_ite (fun _ => rfl) (fun _ => ?_)
  refine wc_ite (fun _ => rfl) (fun _ => ?_)
  refine wc_ite (fun _ => rfl) (fun _ => ?_)
  refine wc_ite (fun _ => rfl) (fun _ => ?_)
  refine wc_ite (fun _ => rfl) (fun _ => ?_)
  refine wc_ite (fun _ => rfl) (fun _ => ?_)
  refine wc_ite (fun _ => rfl) (fun _ => ?_)
  refine wc_ite (fun _ => rfl) (fun _ => ?_)
  refine wc_ite (fun _ => rfl) (fun _ => ?_)
  refine wc_ite (fun _ => rfl) (fun _ => ?_)
  refine wc_ite (fun _ => rfl) (fun _ => ?_)
  refine wc_ite (fun _ => rfl) (fun _ => ?_)
  refine wc_ite (fun _ => rfl) (fun _ => ?_)
  refine wc_ite (fun _ => rfl) (fun _ => ?_)
  refine wc_ite (fun _ => rfl) (fun _ => ?_)
  refine wc_ite (fun _ => rfl) (fun _ => ?_)
  refine wc_ite (fun _ => rfl) (fun _ => ?_)
  rfl
theorem wc_o_TIM {Γ : wc_G} {σ μ : wc_St} {j q : Nat} {x : Int32} (h : q ≠ 0) : wc_cell Γ (wc_st σ 23 0 j x) μ q = wc_cell Γ σ μ q := by
  unfold wc_cell
  refine wc_ite (fun _ => False.elim (by omega)) (fun _ => ?_)
  refine wc_ite (fun _ => rfl) (fun _ => ?_)
  refine wc_ite (fun _ => rfl) (fun _ => ?_)
  refine wc_ite (fun _ => rfl) (fun _ => ?_)
  refine wc_ite (fun _ => rfl) (fun _ => ?_)
  refine wc_ite (fun _ => rfl) (fun _ => ?_)
  refine wc_ite (fun _ => rfl) (fun _ => ?_)
  refine wc_ite (fun _ => rfl) (fun _ => ?_)
  refine wc_ite (fun _ => rfl) (fun _ => ?_)
  refine wc_ite (fun _ => rfl) (fun _ => ?_)
  refine wc_ite (fun _ => rfl) (fun _ => ?_)
  refine wc_ite (fun _ => rfl) (fun _ => ?_)
  refine wc_ite (fun _ => rfl) (fun _ => ?_)
  refine wc_ite (fun _ => rfl) (fun _ => ?_)
  refine wc_ite (fun _ => rfl) (fun _ => ?_)
  refine wc_ite (fun _ => rfl) (fun _ => ?_)
  refine wc_ite (fun _ => rfl) (fun _ => ?_)
  refine wc_ite (fun _ => rfl) (fun _ => ?_)
  refine wc_ite (fun _ => rfl) (fun _ => ?_)
  refine wc_ite (fun _ => rfl) (fun _ => ?_)
  refine wc_ite (fun _ => rfl) (fun _ => ?_)
  refine wc_ite (fun _ => rfl) (fun _ => ?_)
  refine wc_ite (fun _ => rfl) (fun _ => ?_)
  refine wc_ite (fun _ => rfl) (fun _ => ?_)
  refine wc_ite (fun _ => rfl) (fun _ => ?_)
  refine wc_ite (fun _ => rfl) (fun _ => ?_)
  refine wc_ite (fun _ => rfl) (fun _ => ?_)
  refine wc_ite (fun _ => rfl) (fun _ => ?_)
  refine wc_ite (fun _ => rfl) (fun _ => ?_)
  refine wc_ite (fun _ => rfl) (fun _ => ?_)
  refine wc_ite (fun _ => rfl) (fun _ => ?_)
  refine wc_ite (fun _ => rfl) (fun _ => ?_)
  refine wc_ite (fun _ => rfl) (fun _ => ?_)
  refine wc_ite (fun _ => rfl) (fun _ => ?_)
  refine wc_ite (fun _ => rfl) (fun _ => ?_)
  rfl
theorem wc_o_BEG {Γ : wc_G} {σ μ : wc_St} {j q : Nat} {x : Int32} (h : q ≠ 0) : wc_cell Γ (wc_st σ 24 0 j x) μ q = wc_cell Γ σ μ q := by
  unfold wc_cell
  refine wc_ite (fun _ => False.elim (by omega)) (fun _ => ?_)
  refine wc_ite (fun _ => rfl) (fun _ => ?_)
  refine wc_ite (fun _ => rfl) (fun _ => ?_)
  refine wc_ite (fun _ => rfl) (fun _ => ?_)
  refine wc_ite (fun _ => rfl) (fun _ => ?_)
  refine wc_ite (fun _ => rfl) (fun _ => ?_)
  refine wc_ite (fun _ => rfl) (fun _ => ?_)
  refine wc_ite (fun _ => rfl) (fun _ => ?_)
  refine wc_ite (fun _ => rfl) (fun _ => ?_)
  refine wc_ite (fun _ => rfl) (fun _ => ?_)
  refine wc_ite (fun _ => rfl) (fun _ => ?_)
  refine wc_ite (fun _ => rfl) (fun _ => ?_)
  refine wc_ite (fun _ => rfl) (fun _ => ?_)
  refine wc_ite (fun _ => rfl) (fun _ => ?_)
  refine wc_ite (fun _ => rfl) (fun _ => ?_)
  refine wc_ite (fun _ => rfl) (fun _ => ?_)
  refine wc_ite (fun _ => rfl) (fun _ => ?_)
  refine wc_ite (fun _ => rfl) (fun _ => ?_)
  refine wc_ite (fun _ => rfl) (fun _ => ?_)
  refine wc_ite (fun _ => rfl) (fun _ => ?_)
  refine wc_ite (fun _ => rfl) (fun _ => ?_)
  refine wc_ite (fun _ => rfl) (fun _ => ?_)
  refine wc_ite (fun _ => rfl) (fun _ => ?_)
  refine wc_ite (fun _ => rfl) (fun _ => ?_)
  refine wc_ite (fun _ => rfl) (fun _ => ?_)
  refine wc_ite (fun _ => rfl) (fun _ => ?_)
  refine wc_ite (fun _ => rfl) (fun _ => ?_)
  refine wc_ite (fun _ => rfl) (fun _ => ?_)
  refine wc_ite (fun _ => rfl) (fun _ => ?_)
  refine wc_ite (fun _ => rfl) (fun _ => ?_)
  refine wc_ite (fun _ => rfl) (fun _ => ?_)
  refine wc_ite (fun _ => rfl) (fun _ => ?_)
  refine wc_ite (fun _ => rfl) (fun _ => ?_)
  refine wc_ite (fun _ => rfl) (fun _ => ?_)
  refine wc_ite (fun _ => rfl) (fun _ => ?_)
  rfl
theorem wc_o_SNT {Γ : wc_G} {σ μ : wc_St} {j q : Nat} {x : Int32} (h : q ≠ 0) : wc_cell Γ (wc_st σ 25 0 j x) μ q = wc_cell Γ σ μ q := by
  unfold wc_cell
  refine wc_ite (fun _ => False.elim (by omega)) (fun _ => ?_)
  refine wc_ite (fun _ => rfl) (fun _ => ?_)
  refine wc_ite (fun _ => rfl) (fun _ => ?_)
  refine wc_ite (fun _ => rfl) (fun _ => ?_)
  refine wc_ite (fun _ => rfl) (fun _ => ?_)
  refine wc_ite (fun _ => rfl) (fun _ => ?_)
  refine wc_ite (fun _ => rfl) (fun _ => ?_)
  refine wc_ite (fun _ => rfl) (fun _ => ?_)
  refine wc_ite (fun _ => rfl) (fun _ => ?_)
  refine wc_ite (fun _ => rfl) (fun _ => ?_)
  refine wc_ite (fun _ => rfl) (fun _ => ?_)
  refine wc_ite (fun _ => rfl) (fun _ => ?_)
  refine wc_ite (fun _ => rfl) (fun _ => ?_)
  refine wc_ite (fun _ => rfl) (fun _ => ?_)
  refine wc_ite (fun _ => rfl) (fun _ => ?_)
  refine wc_ite (fun _ => rfl) (fun _ => ?_)
  refine wc_ite (fun _ => rfl) (fun _ => ?_)
  refine wc_ite (fun _ => rfl) (fun _ => ?_)
  refine wc_ite (fun _ => rfl) (fun _ => ?_)
  refine wc_ite (fun _ => rfl) (fun _ => ?_)
  refine wc_ite (fun _ => rfl) (fun _ => ?_)
  refine wc_ite (fun _ => rfl) (fun _ => ?_)
  refine wc_ite (fun _ => rfl) (fun _ => ?_)
  refine wc_ite (fun _ => rfl) (fun _ => ?_)
  refine wc_ite (fun _ => rfl) (fun _ => ?_)
  refine wc_ite (fun _ => rfl) (fun _ => ?_)
  refine wc_ite (fun _ => rfl) (fun _ => ?_)
  refine wc_ite (fun _ => rfl) (fun _ => ?_)
  refine wc_ite (fun _ => rfl) (fun _ => ?_)
  refine wc_ite (fun _ => rfl) (fun _ => ?_)
  refine wc_ite (fun _ => rfl) (fun _ => ?_)
  refine wc_ite (fun _ => rfl) (fun _ => ?_)
  refine wc_ite (fun _ => rfl) (fun _ => ?_)
  refine wc_ite (fun _ => rfl) (fun _ => ?_)
  refine wc_ite (fun _ => rfl) (fun _ => ?_)
  rfl
theorem wc_o_UWY {Γ : wc_G} {σ μ : wc_St} {j q : Nat} {x : Int32} (h : q ≠ 0) : wc_cell Γ (wc_st σ 26 0 j x) μ q = wc_cell Γ σ μ q := by
  unfold wc_cell
  refine wc_ite (fun _ => False.elim (by omega)) (fun _ => ?_)
  refine wc_ite (fun _ => rfl) (fun _ => ?_)
  refine wc_ite (fun _ => rfl) (fun _ => ?_)
  refine wc_ite (fun _ => rfl) (fun _ => ?_)
  refine wc_ite (fun _ => rfl) (fun _ => ?_)
  refine wc_ite (fun _ => rfl) (fun _ => ?_)
  refine wc_ite (fun _ => rfl) (fun _ => ?_)
  refine wc_ite (fun _ => rfl) (fun _ => ?_)
  refine wc_ite (fun _ => rfl) (fun _ => ?_)
  refine wc_ite (fun _ => rfl) (fun _ => ?_)
  refine wc_ite (fun _ => rfl) (fun _ => ?_)
  refine wc_ite (fun _ => rfl) (fun _ => ?_)
  refine wc_ite (fun _ => rfl) (fun _ => ?_)
  refine wc_ite (fun _ => rfl) (fun _ => ?_)
  refine wc_ite (fun _ => rfl) (fun _ => ?_)
  refine wc_ite (fun _ => rfl) (fun _ => ?_)
  refine wc_ite (fun _ => rfl) (fun _ => ?_)
  refine wc_ite (fun _ => rfl) (fun _ => ?_)
  refine wc_ite (fun _ => rfl) (fun _ => ?_)
  refine wc_ite (fun _ => rfl) (fun _ => ?_)
  refine wc_ite (fun _ => rfl) (fun _ => ?_)
  refine wc_ite (fun _ => rfl) (fun _ => ?_)
  refine wc_ite (fun _ => rfl) (fun _ => ?_)
  refine wc_ite (fun _ => rfl) (fun _ => ?_)
  refine wc_ite (fun _ => rfl) (fun _ => ?_)
  refine wc_ite (fun _ => rfl) (fun _ => ?_)
  refine wc_ite (fun _ => rfl) (fun _ => ?_)
  refine wc_ite (fun _ => rfl) (fun _ => ?_)
  refine wc_ite (fun _ => rfl) (fun _ => ?_)
  refine wc_ite (fun _ => rfl) (fun _ => ?_)
  refine wc_ite (fun _ => rfl) (fun _ => ?_)
  refine wc_ite (fun _ => rfl) (fun _ => ?_)
  refine wc_ite (fun _ => rfl) (fun _ => ?_)
  refine wc_ite (fun _ => rfl) (fun _ => ?_)
  refine wc_ite (fun _ => rfl) (fun _ => ?_)
  rfl
theorem wc_o_BEF {Γ : wc_G} {σ μ : wc_St} {i : Nat} {j q : Nat} {x : Int32} (h : q ≠ 5 + i) : wc_cell Γ (wc_st σ 0 i j x) μ q = wc_cell Γ σ μ q := by
  unfold wc_cell
  refine wc_ite (fun _ => rfl) (fun _ => ?_)
  refine wc_ite (fun _ => rfl) (fun _ => ?_)
  refine wc_ite (fun _ => rfl) (fun _ => ?_)
  refine wc_ite (fun _ => rfl) (fun _ => ?_)
  refine wc_ite (fun _ => rfl) (fun _ => ?_)
  refine wc_ite (fun _ => by simp only [wc_st_ne (show q - 5 ≠ i by omega)]) (fun _ => ?_)
  refine wc_ite (fun _ => rfl) (fun _ => ?_)
  refine wc_ite (fun _ => rfl) (fun _ => ?_)
  refine wc_ite (fun _ => rfl) (fun _ => ?_)
  refine wc_ite (fun _ => rfl) (fun _ => ?_)
  refine wc_ite (fun _ => rfl) (fun _ => ?_)
  refine wc_ite (fun _ => rfl) (fun _ => ?_)
  refine wc_ite (fun _ => rfl) (fun _ => ?_)
  refine wc_ite (fun _ => rfl) (fun _ => ?_)
  refine wc_ite (fun _ => rfl) (fun _ => ?_)
  refine wc_ite (fun _ => rfl) (fun _ => ?_)
  refine wc_ite (fun _ => rfl) (fun _ => ?_)
  refine wc_ite (fun _ => rfl) (fun _ => ?_)
  refine wc_ite (fun _ => rfl) (fun _ => ?_)
  refine wc_ite (fun _ => rfl) (fun _ => ?_)
  refine wc_ite (fun _ => rfl) (fun _ => ?_)
  refine wc_ite (fun _ => rfl) (fun _ => ?_)
  refine wc_ite (fun _ => rfl) (fun _ => ?_)
  refine wc_ite (fun _ => rfl) (fun _ => ?_)
  refine wc_ite (fun _ => rfl) (fun _ => ?_)
  refine wc_ite (fun _ => rfl) (fun _ => ?_)
  refine wc_ite (fun _ => rfl) (fun _ => ?_)
  refine wc_ite (fun _ => rfl) (fun _ => ?_)
  refine wc_ite (fun _ => rfl) (fun _ => ?_)
  refine wc_ite (fun _ => rfl) (fun _ => ?_)
  refine wc_ite (fun _ => rfl) (fun _ => ?_)
  refine wc_ite (fun _ => rfl) (fun _ => ?_)
  refine wc_ite (fun _ => rfl) (fun _ => ?_)
  refine wc_ite (fun _ => rfl) (fun _ => ?_)
  refine wc_ite (fun _ => rfl) (fun _ => ?_)
  rfl
theorem wc_o_AFT {Γ : wc_G} {σ μ : wc_St} {i : Nat} {j q : Nat} {x : Int32} (h : q ≠ 5 + i) : wc_cell Γ (wc_st σ 1 i j x) μ q = wc_cell Γ σ μ q := by
  unfold wc_cell
  refine wc_ite (fun _ => rfl) (fun _ => ?_)
  refine wc_ite (fun _ => rfl) (fun _ => ?_)
  refine wc_ite (fun _ => rfl) (fun _ => ?_)
  refine wc_ite (fun _ => rfl) (fun _ => ?_)
  refine wc_ite (fun _ => rfl) (fun _ => ?_)
  refine wc_ite (fun _ => by simp only [wc_st_ne (show q - 5 ≠ i by omega)]) (fun _ => ?_)
  refine wc_ite (fun _ => rfl) (fun _ => ?_)
  refine wc_ite (fun _ => rfl) (fun _ => ?_)
  refine wc_ite (fun _ => rfl) (fun _ => ?_)
  refine wc_ite (fun _ => rfl) (fun _ => ?_)
  refine wc_ite (fun _ => rfl) (fun _ => ?_)
  refine wc_ite (fun _ => rfl) (fun _ => ?_)
  refine wc_ite (fun _ => rfl) (fun _ => ?_)
  refine wc_ite (fun _ => rfl) (fun _ => ?_)
  refine wc_ite (fun _ => rfl) (fun _ => ?_)
  refine wc_ite (fun _ => rfl) (fun _ => ?_)
  refine wc_ite (fun _ => rfl) (fun _ => ?_)
  refine wc_ite (fun _ => rfl) (fun _ => ?_)
  refine wc_ite (fun _ => rfl) (fun _ => ?_)
  refine wc_ite (fun _ => rfl) (fun _ => ?_)
  refine wc_ite (fun _ => rfl) (fun _ => ?_)
  refine wc_ite (fun _ => rfl) (fun _ => ?_)
  refine wc_ite (fun _ => rfl) (fun _ => ?_)
  refine wc_ite (fun _ => rfl) (fun _ => ?_)
  refine wc_ite (fun _ => rfl) (fun _ => ?_)
  refine wc_ite (fun _ => rfl) (fun _ => ?_)
  refine wc_ite (fun _ => rfl) (fun _ => ?_)
  refine wc_ite (fun _ => rfl) (fun _ => ?_)
  refine wc_ite (fun _ => rfl) (fun _ => ?_)
  refine wc_ite (fun _ => rfl) (fun _ => ?_)
  refine wc_ite (fun _ => rfl) (fun _ => ?_)
  refine wc_ite (fun _ => rfl) (fun _ => ?_)
  refine wc_ite (fun _ => rfl) (fun _ => ?_)
  refine wc_ite (fun _ => rfl) (fun _ => ?_)
  refine wc_ite (fun _ => rfl) (fun _ => ?_)
  rfl
theorem wc_o_DLY {Γ : wc_G} {σ μ : wc_St} {i : Nat} {j q : Nat} {x : Int32} (h : q ≠ 5 + i) : wc_cell Γ (wc_st σ 2 i j x) μ q = wc_cell Γ σ μ q := by
  unfold wc_cell
  refine wc_ite (fun _ => rfl) (fun _ => ?_)
  refine wc_ite (fun _ => rfl) (fun _ => ?_)
  refine wc_ite (fun _ => rfl) (fun _ => ?_)
  refine wc_ite (fun _ => rfl) (fun _ => ?_)
  refine wc_ite (fun _ => rfl) (fun _ => ?_)
  refine wc_ite (fun _ => by simp only [wc_st_ne (show q - 5 ≠ i by omega)]) (fun _ => ?_)
  refine wc_ite (fun _ => rfl) (fun _ => ?_)
  refine wc_ite (fun _ => rfl) (fun _ => ?_)
  refine wc_ite (fun _ => rfl) (fun _ => ?_)
  refine wc_ite (fun _ => rfl) (fun _ => ?_)
  refine wc_ite (fun _ => rfl) (fun _ => ?_)
  refine wc_ite (fun _ => rfl) (fun _ => ?_)
  refine wc_ite (fun _ => rfl) (fun _ => ?_)
  refine wc_ite (fun _ => rfl) (fun _ => ?_)
  refine wc_ite (fun _ => rfl) (fun _ => ?_)
  refine wc_ite (fun _ => rfl) (fun _ => ?_)
  refine wc_ite (fun _ => rfl) (fun _ => ?_)
  refine wc_ite (fun _ => rfl) (fun _ => ?_)
  refine wc_ite (fun _ => rfl) (fun _ => ?_)
  refine wc_ite (fun _ => rfl) (fun _ => ?_)
  refine wc_ite (fun _ => rfl) (fun _ => ?_)
  refine wc_ite (fun _ => rfl) (fun _ => ?_)
  refine wc_ite (fun _ => rfl) (fun _ => ?_)
  refine wc_ite (fun _ => rfl) (fun _ => ?_)
  refine wc_ite (fun _ => rfl) (fun _ => ?_)
  refine wc_ite (fun _ => rfl) (fun _ => ?_)
  refine wc_ite (fun _ => rfl) (fun _ => ?_)
  refine wc_ite (fun _ => rfl) (fun _ => ?_)
  refine wc_ite (fun _ => rfl) (fun _ => ?_)
  refine wc_ite (fun _ => rfl) (fun _ => ?_)
  refine wc_ite (fun _ => rfl) (fun _ => ?_)
  refine wc_ite (fun _ => rfl) (fun _ => ?_)
  refine wc_ite (fun _ => rfl) (fun _ => ?_)
  refine wc_ite (fun _ => rfl) (fun _ => ?_)
  refine wc_ite (fun _ => rfl) (fun _ => ?_)
  rfl
theorem wc_o_UP {Γ : wc_G} {σ μ : wc_St} {i : Nat} {j q : Nat} {x : Int32} (h : q ≠ 5 + i) : wc_cell Γ (wc_st σ 3 i j x) μ q = wc_cell Γ σ μ q := by
  unfold wc_cell
  refine wc_ite (fun _ => rfl) (fun _ => ?_)
  refine wc_ite (fun _ => rfl) (fun _ => ?_)
  refine wc_ite (fun _ => rfl) (fun _ => ?_)
  refine wc_ite (fun _ => rfl) (fun _ => ?_)
  refine wc_ite (fun _ => rfl) (fun _ => ?_)
  refine wc_ite (fun _ => by simp only [wc_st_ne (show q - 5 ≠ i by omega)]) (fun _ => ?_)
  refine wc_ite (fun _ => rfl) (fun _ => ?_)
  refine wc_ite (fun _ => rfl) (fun _ => ?_)
  refine wc_ite (fun _ => rfl) (fun _ => ?_)
  refine wc_ite (fun _ => rfl) (fun _ => ?_)
  refine wc_ite (fun _ => rfl) (fun _ => ?_)
  refine wc_ite (fun _ => rfl) (fun _ => ?_)
  refine wc_ite (fun _ => rfl) (fun _ => ?_)
  refine wc_ite (fun _ => rfl) (fun _ => ?_)
  refine wc_ite (fun _ => rfl) (fun _ => ?_)
  refine wc_ite (fun _ => rfl) (fun _ => ?_)
  refine wc_ite (fun _ => rfl) (fun _ => ?_)
  refine wc_ite (fun _ => rfl) (fun _ => ?_)
  refine wc_ite (fun _ => rfl) (fun _ => ?_)
  refine wc_ite (fun _ => rfl) (fun _ => ?_)
  refine wc_ite (fun _ => rfl) (fun _ => ?_)
  refine wc_ite (fun _ => rfl) (fun _ => ?_)
  refine wc_ite (fun _ => rfl) (fun _ => ?_)
  refine wc_ite (fun _ => rfl) (fun _ => ?_)
  refine wc_ite (fun _ => rfl) (fun _ => ?_)
  refine wc_ite (fun _ => rfl) (fun _ => ?_)
  refine wc_ite (fun _ => rfl) (fun _ => ?_)
  refine wc_ite (fun _ => rfl) (fun _ => ?_)
  refine wc_ite (fun _ => rfl) (fun _ => ?_)
  refine wc_ite (fun _ => rfl) (fun _ => ?_)
  refine wc_ite (fun _ => rfl) (fun _ => ?_)
  refine wc_ite (fun _ => rfl) (fun _ => ?_)
  refine wc_ite (fun _ => rfl) (fun _ => ?_)
  refine wc_ite (fun _ => rfl) (fun _ => ?_)
  refine wc_ite (fun _ => rfl) (fun _ => ?_)
  rfl
theorem wc_o_BND {Γ : wc_G} {σ μ : wc_St} {i : Nat} {j q : Nat} {x : Int32} (h : q ≠ 5 + i) : wc_cell Γ (wc_st σ 4 i j x) μ q = wc_cell Γ σ μ q := by
  unfold wc_cell
  refine wc_ite (fun _ => rfl) (fun _ => ?_)
  refine wc_ite (fun _ => rfl) (fun _ => ?_)
  refine wc_ite (fun _ => rfl) (fun _ => ?_)
  refine wc_ite (fun _ => rfl) (fun _ => ?_)
  refine wc_ite (fun _ => rfl) (fun _ => ?_)
  refine wc_ite (fun _ => by simp only [wc_st_ne (show q - 5 ≠ i by omega)]) (fun _ => ?_)
  refine wc_ite (fun _ => rfl) (fun _ => ?_)
  refine wc_ite (fun _ => rfl) (fun _ => ?_)
  refine wc_ite (fun _ => rfl) (fun _ => ?_)
  refine wc_ite (fun _ => rfl) (fun _ => ?_)
  refine wc_ite (fun _ => rfl) (fun _ => ?_)
  refine wc_ite (fun _ => rfl) (fun _ => ?_)
  refine wc_ite (fun _ => rfl) (fun _ => ?_)
  refine wc_ite (fun _ => rfl) (fun _ => ?_)
  refine wc_ite (fun _ => rfl) (fun _ => ?_)
  refine wc_ite (fun _ => rfl) (fun _ => ?_)
  refine wc_ite (fun _ => rfl) (fun _ => ?_)
  refine wc_ite (fun _ => rfl) (fun _ => ?_)
  refine wc_ite (fun _ => rfl) (fun _ => ?_)
  refine wc_ite (fun _ => rfl) (fun _ => ?_)
  refine wc_ite (fun _ => rfl) (fun _ => ?_)
  refine wc_ite (fun _ => rfl) (fun _ => ?_)
  refine wc_ite (fun _ => rfl) (fun _ => ?_)
  refine wc_ite (fun _ => rfl) (fun _ => ?_)
  refine wc_ite (fun _ => rfl) (fun _ => ?_)
  refine wc_ite (fun _ => rfl) (fun _ => ?_)
  refine wc_ite (fun _ => rfl) (fun _ => ?_)
  refine wc_ite (fun _ => rfl) (fun _ => ?_)
  refine wc_ite (fun _ => rfl) (fun _ => ?_)
  refine wc_ite (fun _ => rfl) (fun _ => ?_)
  refine wc_ite (fun _ => rfl) (fun _ => ?_)
  refine wc_ite (fun _ => rfl) (fun _ => ?_)
  refine wc_ite (fun _ => rfl) (fun _ => ?_)
  refine wc_ite (fun _ => rfl) (fun _ => ?_)
  refine wc_ite (fun _ => rfl) (fun _ => ?_)
  rfl
theorem wc_o_CNT {Γ : wc_G} {σ μ : wc_St} {i : Nat} {j q : Nat} {x : Int32} (h : q ≠ 8 + i) : wc_cell Γ (wc_st σ 5 i j x) μ q = wc_cell Γ σ μ q := by
  unfold wc_cell
  refine wc_ite (fun _ => rfl) (fun _ => ?_)
  refine wc_ite (fun _ => rfl) (fun _ => ?_)
  refine wc_ite (fun _ => rfl) (fun _ => ?_)
  refine wc_ite (fun _ => rfl) (fun _ => ?_)
  refine wc_ite (fun _ => rfl) (fun _ => ?_)
  refine wc_ite (fun _ => rfl) (fun _ => ?_)
  refine wc_ite (fun _ => by simp only [wc_st_ne (show q - 8 ≠ i by omega)]) (fun _ => ?_)
  refine wc_ite (fun _ => rfl) (fun _ => ?_)
  refine wc_ite (fun _ => rfl) (fun _ => ?_)
  refine wc_ite (fun _ => rfl) (fun _ => ?_)
  refine wc_ite (fun _ => rfl) (fun _ => ?_)
  refine wc_ite (fun _ => rfl) (fun _ => ?_)
  refine wc_ite (fun _ => rfl) (fun _ => ?_)
  refine wc_ite (fun _ => rfl) (fun _ => ?_)
  refine wc_ite (fun _ => rfl) (fun _ => ?_)
  refine wc_ite (fun _ => rfl) (fun _ => ?_)
  refine wc_ite (fun _ => rfl) (fun _ => ?_)
  refine wc_ite (fun _ => rfl) (fun _ => ?_)
  refine wc_ite (fun _ => rfl) (fun _ => ?_)
  refine wc_ite (fun _ => rfl) (fun _ => ?_)
  refine wc_ite (fun _ => rfl) (fun _ => ?_)
  refine wc_ite (fun _ => rfl) (fun _ => ?_)
  refine wc_ite (fun _ => rfl) (fun _ => ?_)
  refine wc_ite (fun _ => rfl) (fun _ => ?_)
  refine wc_ite (fun _ => rfl) (fun _ => ?_)
  refine wc_ite (fun _ => rfl) (fun _ => ?_)
  refine wc_ite (fun _ => rfl) (fun _ => ?_)
  refine wc_ite (fun _ => rfl) (fun _ => ?_)
  refine wc_ite (fun _ => rfl) (fun _ => ?_)
  refine wc_ite (fun _ => rfl) (fun _ => ?_)
  refine wc_ite (fun _ => rfl) (fun _ => ?_)
  refine wc_ite (fun _ => rfl) (fun _ => ?_)
  refine wc_ite (fun _ => rfl) (fun _ => ?_)
  refine wc_ite (fun _ => rfl) (fun _ => ?_)
  refine wc_ite (fun _ => rfl) (fun _ => ?_)
  rfl
theorem wc_o_VAL {Γ : wc_G} {σ μ : wc_St} {i : Nat} {j q : Nat} {x : Int32} (h : q ≠ 17 + i) : wc_cell Γ (wc_st σ 6 i j x) μ q = wc_cell Γ σ μ q := by
  unfold wc_cell
  refine wc_ite (fun _ => rfl) (fun _ => ?_)
  refine wc_ite (fun _ => rfl) (fun _ => ?_)
  refine wc_ite (fun _ => rfl) (fun _ => ?_)
  refine wc_ite (fun _ => rfl) (fun _ => ?_)
  refine wc_ite (fun _ => rfl) (fun _ => ?_)
  refine wc_ite (fun _ => rfl) (fun _ => ?_)
  refine wc_ite (fun _ => rfl) (fun _ => ?_)
  refine wc_ite (fun _ => by rw [wc_st_ne (show q - 17 ≠ i by omega)]) (fun _ => ?_)
  refine wc_ite (fun _ => rfl) (fun _ => ?_)
  refine wc_ite (fun _ => rfl) (fun _ => ?_)
  refine wc_ite (fun _ => rfl) (fun _ => ?_)
  refine wc_ite (fun _ => rfl) (fun _ => ?_)
  refine wc_ite (fun _ => rfl) (fun _ => ?_)
  refine wc_ite (fun _ => rfl) (fun _ => ?_)
  refine wc_ite (fun _ => rfl) (fun _ => ?_)
  refine wc_ite (fun _ => rfl) (fun _ => ?_)
  refine wc_ite (fun _ => rfl) (fun _ => ?_)
  refine wc_ite (fun _ => rfl) (fun _ => ?_)
  refine wc_ite (fun _ => rfl) (fun _ => ?_)
  refine wc_ite (fun _ => rfl) (fun _ => ?_)
  refine wc_ite (fun _ => rfl) (fun _ => ?_)
  refine wc_ite (fun _ => rfl) (fun _ => ?_)
  refine wc_ite (fun _ => rfl) (fun _ => ?_)
  refine wc_ite (fun _ => rfl) (fun _ => ?_)
  refine wc_ite (fun _ => rfl) (fun _ => ?_)
  refine wc_ite (fun _ => rfl) (fun _ => ?_)
  refine wc_ite (fun _ => rfl) (fun _ => ?_)
  refine wc_ite (fun _ => rfl) (fun _ => ?_)
  refine wc_ite (fun _ => rfl) (fun _ => ?_)
  refine wc_ite (fun _ => rfl) (fun _ => ?_)
  refine wc_ite (fun _ => rfl) (fun _ => ?_)
  refine wc_ite (fun _ => rfl) (fun _ => ?_)
  refine wc_ite (fun _ => rfl) (fun _ => ?_)
  refine wc_ite (fun _ => rfl) (fun _ => ?_)
  refine wc_ite (fun _ => rfl) (fun _ => ?_)
  rfl
theorem wc_o_STP {Γ : wc_G} {σ μ : wc_St} {i : Nat} {j q : Nat} {x : Int32} (h : q ≠ 26 + i) : wc_cell Γ (wc_st σ 7 i j x) μ q = wc_cell Γ σ μ q := by
  unfold wc_cell
  refine wc_ite (fun _ => rfl) (fun _ => ?_)
  refine wc_ite (fun _ => rfl) (fun _ => ?_)
  refine wc_ite (fun _ => rfl) (fun _ => ?_)
  refine wc_ite (fun _ => rfl) (fun _ => ?_)
  refine wc_ite (fun _ => rfl) (fun _ => ?_)
  refine wc_ite (fun _ => rfl) (fun _ => ?_)
  refine wc_ite (fun _ => rfl) (fun _ => ?_)
  refine wc_ite (fun _ => rfl) (fun _ => ?_)
  refine wc_ite (fun _ => by rw [wc_st_ne (show q - 26 ≠ i by omega)]) (fun _ => ?_)
  refine wc_ite (fun _ => rfl) (fun _ => ?_)
  refine wc_ite (fun _ => rfl) (fun _ => ?_)
  refine wc_ite (fun _ => rfl) (fun _ => ?_)
  refine wc_ite (fun _ => rfl) (fun _ => ?_)
  refine wc_ite (fun _ => rfl) (fun _ => ?_)
  refine wc_ite (fun _ => rfl) (fun _ => ?_)
  refine wc_ite (fun _ => rfl) (fun _ => ?_)
  refine wc_ite (fun _ => rfl) (fun _ => ?_)
  refine wc_ite (fun _ => rfl) (fun _ => ?_)
  refine wc_ite (fun _ => rfl) (fun _ => ?_)
  refine wc_ite (fun _ => rfl) (fun _ => ?_)
  refine wc_ite (fun _ => rfl) (fun _ => ?_)
  refine wc_ite (fun _ => rfl) (fun _ => ?_)
  refine wc_ite (fun _ => rfl) (fun _ => ?_)
  refine wc_ite (fun _ => rfl) (fun _ => ?_)
  refine wc_ite (fun _ => rfl) (fun _ => ?_)
  refine wc_ite (fun _ => rfl) (fun _ => ?_)
  refine wc_ite (fun _ => rfl) (fun _ => ?_)
  refine wc_ite (fun _ => rfl) (fun _ => ?_)
  refine wc_ite (fun _ => rfl) (fun _ => ?_)
  refine wc_ite (fun _ => rfl) (fun _ => ?_)
  refine wc_ite (fun _ => rfl) (fun _ => ?_)
  refine wc_ite (fun _ => rfl) (fun _ => ?_)
  refine wc_ite (fun _ => rfl) (fun _ => ?_)
  refine wc_ite (fun _ => rfl) (fun _ => ?_)
  refine wc_ite (fun _ => rfl) (fun _ => ?_)
  rfl
theorem wc_o_STA {Γ : wc_G} {σ μ : wc_St} {i : Nat} {j q : Nat} {x : Int32} (h : q ≠ 35 + i) : wc_cell Γ (wc_st σ 8 i j x) μ q = wc_cell Γ σ μ q := by
  unfold wc_cell
  refine wc_ite (fun _ => rfl) (fun _ => ?_)
  refine wc_ite (fun _ => rfl) (fun _ => ?_)
  refine wc_ite (fun _ => rfl) (fun _ => ?_)
  refine wc_ite (fun _ => rfl) (fun _ => ?_)
  refine wc_ite (fun _ => rfl) (fun _ => ?_)
  refine wc_ite (fun _ => rfl) (fun _ => ?_)
  refine wc_ite (fun _ => rfl) (fun _ => ?_)
  refine wc_ite (fun _ => rfl) (fun _ => ?_)
  refine wc_ite (fun _ => rfl) (fun _ => ?_)
  refine wc_ite (fun _ => by simp only [wc_st_ne (show q - 35 ≠ i by omega)]) (fun _ => ?_)
  refine wc_ite (fun _ => rfl) (fun _ => ?_)
  refine wc_ite (fun _ => rfl) (fun _ => ?_)
  refine wc_ite (fun _ => rfl) (fun _ => ?_)
  refine wc_ite (fun _ => rfl) (fun _ => ?_)
  refine wc_ite (fun _ => rfl) (fun _ => ?_)
  refine wc_ite (fun _ => rfl) (fun _ => ?_)
  refine wc_ite (fun _ => rfl) (fun _ => ?_)
  refine wc_ite (fun _ => rfl) (fun _ => ?_)
  refine wc_ite (fun _ => rfl) (fun _ => ?_)
  refine wc_ite (fun _ => rfl) (fun _ => ?_)
  refine wc_ite (fun _ => rfl) (fun _ => ?_)
  refine wc_ite (fun _ => rfl) (fun _ => ?_)
  refine wc_ite (fun _ => rfl) (fun _ => ?_)
  refine wc_ite (fun _ => rfl) (fun _ => ?_)
  refine wc_ite (fun _ => rfl) (fun _ => ?_)
  refine wc_ite (fun _ => rfl) (fun _ => ?_)
  refine wc_ite (fun _ => rfl) (fun _ => ?_)
  refine wc_ite (fun _ => rfl) (fun _ => ?_)
  refine wc_ite (fun _ => rfl) (fun _ => ?_)
  refine wc_ite (fun _ => rfl) (fun _ => ?_)
  refine wc_ite (fun _ => rfl) (fun _ => ?_)
  refine wc_ite (fun _ => rfl) (fun _ => ?_)
  refine wc_ite (fun _ => rfl) (fun _ => ?_)
  refine wc_ite (fun _ => rfl) (fun _ => ?_)
  refine wc_ite (fun _ => rfl) (fun _ => ?_)
  rfl
theorem wc_o_BIR {Γ : wc_G} {σ μ : wc_St} {i : Nat} {j q : Nat} {x : Int32} (h : q ≠ 35 + i) : wc_cell Γ (wc_st σ 9 i j x) μ q = wc_cell Γ σ μ q := by
  unfold wc_cell
  refine wc_ite (fun _ => rfl) (fun _ => ?_)
  refine wc_ite (fun _ => rfl) (fun _ => ?_)
  refine wc_ite (fun _ => rfl) (fun _ => ?_)
  refine wc_ite (fun _ => rfl) (fun _ => ?_)
  refine wc_ite (fun _ => rfl) (fun _ => ?_)
  refine wc_ite (fun _ => rfl) (fun _ => ?_)
  refine wc_ite (fun _ => rfl) (fun _ => ?_)
  refine wc_ite (fun _ => rfl) (fun _ => ?_)
  refine wc_ite (fun _ => rfl) (fun _ => ?_)
  refine wc_ite (fun _ => by simp only [wc_st_ne (show q - 35 ≠ i by omega)]) (fun _ => ?_)
  refine wc_ite (fun _ => rfl) (fun _ => ?_)
  refine wc_ite (fun _ => rfl) (fun _ => ?_)
  refine wc_ite (fun _ => rfl) (fun _ => ?_)
  refine wc_ite (fun _ => rfl) (fun _ => ?_)
  refine wc_ite (fun _ => rfl) (fun _ => ?_)
  refine wc_ite (fun _ => rfl) (fun _ => ?_)
  refine wc_ite (fun _ => rfl) (fun _ => ?_)
  refine wc_ite (fun _ => rfl) (fun _ => ?_)
  refine wc_ite (fun _ => rfl) (fun _ => ?_)
  refine wc_ite (fun _ => rfl) (fun _ => ?_)
  refine wc_ite (fun _ => rfl) (fun _ => ?_)
  refine wc_ite (fun _ => rfl) (fun _ => ?_)
  refine wc_ite (fun _ => rfl) (fun _ => ?_)
  refine wc_ite (fun _ => rfl) (fun _ => ?_)
  refine wc_ite (fun _ => rfl) (fun _ => ?_)
  refine wc_ite (fun _ => rfl) (fun _ => ?_)
  refine wc_ite (fun _ => rfl) (fun _ => ?_)
  refine wc_ite (fun _ => rfl) (fun _ => ?_)
  refine wc_ite (fun _ => rfl) (fun _ => ?_)
  refine wc_ite (fun _ => rfl) (fun _ => ?_)
  refine wc_ite (fun _ => rfl) (fun _ => ?_)
  refine wc_ite (fun _ => rfl) (fun _ => ?_)
  refine wc_ite (fun _ => rfl) (fun _ => ?_)
  refine wc_ite (fun _ => rfl) (fun _ => ?_)
  refine wc_ite (fun _ => rfl) (fun _ => ?_)
  rfl
theorem wc_o_CRD {Γ : wc_G} {σ μ : wc_St} {i : Nat} {j q : Nat} {x : Int32} (h : q ≠ 35 + i) : wc_cell Γ (wc_st σ 10 i j x) μ q = wc_cell Γ σ μ q := by
  unfold wc_cell
  refine wc_ite (fun _ => rfl) (fun _ => ?_)
  refine wc_ite (fun _ => rfl) (fun _ => ?_)
  refine wc_ite (fun _ => rfl) (fun _ => ?_)
  refine wc_ite (fun _ => rfl) (fun _ => ?_)
  refine wc_ite (fun _ => rfl) (fun _ => ?_)
  refine wc_ite (fun _ => rfl) (fun _ => ?_)
  refine wc_ite (fun _ => rfl) (fun _ => ?_)
  refine wc_ite (fun _ => rfl) (fun _ => ?_)
  refine wc_ite (fun _ => rfl) (fun _ => ?_)
  refine wc_ite (fun _ => by simp only [wc_st_ne (show q - 35 ≠ i by omega)]) (fun _ => ?_)
  refine wc_ite (fun _ => rfl) (fun _ => ?_)
  refine wc_ite (fun _ => rfl) (fun _ => ?_)
  refine wc_ite (fun _ => rfl) (fun _ => ?_)
  refine wc_ite (fun _ => rfl) (fun _ => ?_)
  refine wc_ite (fun _ => rfl) (fun _ => ?_)
  refine wc_ite (fun _ => rfl) (fun _ => ?_)
  refine wc_ite (fun _ => rfl) (fun _ => ?_)
  refine wc_ite (fun _ => rfl) (fun _ => ?_)
  refine wc_ite (fun _ => rfl) (fun _ => ?_)
  refine wc_ite (fun _ => rfl) (fun _ => ?_)
  refine wc_ite (fun _ => rfl) (fun _ => ?_)
  refine wc_ite (fun _ => rfl) (fun _ => ?_)
  refine wc_ite (fun _ => rfl) (fun _ => ?_)
  refine wc_ite (fun _ => rfl) (fun _ => ?_)
  refine wc_ite (fun _ => rfl) (fun _ => ?_)
  refine wc_ite (fun _ => rfl) (fun _ => ?_)
  refine wc_ite (fun _ => rfl) (fun _ => ?_)
  refine wc_ite (fun _ => rfl) (fun _ => ?_)
  refine wc_ite (fun _ => rfl) (fun _ => ?_)
  refine wc_ite (fun _ => rfl) (fun _ => ?_)
  refine wc_ite (fun _ => rfl) (fun _ => ?_)
  refine wc_ite (fun _ => rfl) (fun _ => ?_)
  refine wc_ite (fun _ => rfl) (fun _ => ?_)
  refine wc_ite (fun _ => rfl) (fun _ => ?_)
  refine wc_ite (fun _ => rfl) (fun _ => ?_)
  rfl
theorem wc_o_FLR {Γ : wc_G} {σ μ : wc_St} {i : Nat} {j q : Nat} {x : Int32} (h : q ≠ 35 + i) : wc_cell Γ (wc_st σ 11 i j x) μ q = wc_cell Γ σ μ q := by
  unfold wc_cell
  refine wc_ite (fun _ => rfl) (fun _ => ?_)
  refine wc_ite (fun _ => rfl) (fun _ => ?_)
  refine wc_ite (fun _ => rfl) (fun _ => ?_)
  refine wc_ite (fun _ => rfl) (fun _ => ?_)
  refine wc_ite (fun _ => rfl) (fun _ => ?_)
  refine wc_ite (fun _ => rfl) (fun _ => ?_)
  refine wc_ite (fun _ => rfl) (fun _ => ?_)
  refine wc_ite (fun _ => rfl) (fun _ => ?_)
  refine wc_ite (fun _ => rfl) (fun _ => ?_)
  refine wc_ite (fun _ => by simp only [wc_st_ne (show q - 35 ≠ i by omega)]) (fun _ => ?_)
  refine wc_ite (fun _ => rfl) (fun _ => ?_)
  refine wc_ite (fun _ => rfl) (fun _ => ?_)
  refine wc_ite (fun _ => rfl) (fun _ => ?_)
  refine wc_ite (fun _ => rfl) (fun _ => ?_)
  refine wc_ite (fun _ => rfl) (fun _ => ?_)
  refine wc_ite (fun _ => rfl) (fun _ => ?_)
  refine wc_ite (fun _ => rfl) (fun _ => ?_)
  refine wc_ite (fun _ => rfl) (fun _ => ?_)
  refine wc_ite (fun _ => rfl) (fun _ => ?_)
  refine wc_ite (fun _ => rfl) (fun _ => ?_)
  refine wc_ite (fun _ => rfl) (fun _ => ?_)
  refine wc_ite (fun _ => rfl) (fun _ => ?_)
  refine wc_ite (fun _ => rfl) (fun _ => ?_)
  refine wc_ite (fun _ => rfl) (fun _ => ?_)
  refine wc_ite (fun _ => rfl) (fun _ => ?_)
  refine wc_ite (fun _ => rfl) (fun _ => ?_)
  refine wc_ite (fun _ => rfl) (fun _ => ?_)
  refine wc_ite (fun _ => rfl) (fun _ => ?_)
  refine wc_ite (fun _ => rfl) (fun _ => ?_)
  refine wc_ite (fun _ => rfl) (fun _ => ?_)
  refine wc_ite (fun _ => rfl) (fun _ => ?_)
  refine wc_ite (fun _ => rfl) (fun _ => ?_)
  refine wc_ite (fun _ => rfl) (fun _ => ?_)
  refine wc_ite (fun _ => rfl) (fun _ => ?_)
  refine wc_ite (fun _ => rfl) (fun _ => ?_)
  rfl
theorem wc_o_AWT {Γ : wc_G} {σ μ : wc_St} {i : Nat} {j q : Nat} {x : Int32} (h : q ≠ 35 + i) : wc_cell Γ (wc_st σ 12 i j x) μ q = wc_cell Γ σ μ q := by
  unfold wc_cell
  refine wc_ite (fun _ => rfl) (fun _ => ?_)
  refine wc_ite (fun _ => rfl) (fun _ => ?_)
  refine wc_ite (fun _ => rfl) (fun _ => ?_)
  refine wc_ite (fun _ => rfl) (fun _ => ?_)
  refine wc_ite (fun _ => rfl) (fun _ => ?_)
  refine wc_ite (fun _ => rfl) (fun _ => ?_)
  refine wc_ite (fun _ => rfl) (fun _ => ?_)
  refine wc_ite (fun _ => rfl) (fun _ => ?_)
  refine wc_ite (fun _ => rfl) (fun _ => ?_)
  refine wc_ite (fun _ => by simp only [wc_st_ne (show q - 35 ≠ i by omega)]) (fun _ => ?_)
  refine wc_ite (fun _ => rfl) (fun _ => ?_)
  refine wc_ite (fun _ => rfl) (fun _ => ?_)
  refine wc_ite (fun _ => rfl) (fun _ => ?_)
  refine wc_ite (fun _ => rfl) (fun _ => ?_)
  refine wc_ite (fun _ => rfl) (fun _ => ?_)
  refine wc_ite (fun _ => rfl) (fun _ => ?_)
  refine wc_ite (fun _ => rfl) (fun _ => ?_)
  refine wc_ite (fun _ => rfl) (fun _ => ?_)
  refine wc_ite (fun _ => rfl) (fun _ => ?_)
  refine wc_ite (fun _ => rfl) (fun _ => ?_)
  refine wc_ite (fun _ => rfl) (fun _ => ?_)
  refine wc_ite (fun _ => rfl) (fun _ => ?_)
  refine wc_ite (fun _ => rfl) (fun _ => ?_)
  refine wc_ite (fun _ => rfl) (fun _ => ?_)
  refine wc_ite (fun _ => rfl) (fun _ => ?_)
  refine wc_ite (fun _ => rfl) (fun _ => ?_)
  refine wc_ite (fun _ => rfl) (fun _ => ?_)
  refine wc_ite (fun _ => rfl) (fun _ => ?_)
  refine wc_ite (fun _ => rfl) (fun _ => ?_)
  refine wc_ite (fun _ => rfl) (fun _ => ?_)
  refine wc_ite (fun _ => rfl) (fun _ => ?_)
  refine wc_ite (fun _ => rfl) (fun _ => ?_)
  refine wc_ite (fun _ => rfl) (fun _ => ?_)
  refine wc_ite (fun _ => rfl) (fun _ => ?_)
  refine wc_ite (fun _ => rfl) (fun _ => ?_)
  rfl
theorem wc_o_TST {Γ : wc_G} {σ μ : wc_St} {i : Nat} {j q : Nat} {x : Int32} (h : q ≠ 35 + i) : wc_cell Γ (wc_st σ 13 i j x) μ q = wc_cell Γ σ μ q := by
  unfold wc_cell
  refine wc_ite (fun _ => rfl) (fun _ => ?_)
  refine wc_ite (fun _ => rfl) (fun _ => ?_)
  refine wc_ite (fun _ => rfl) (fun _ => ?_)
  refine wc_ite (fun _ => rfl) (fun _ => ?_)
  refine wc_ite (fun _ => rfl) (fun _ => ?_)
  refine wc_ite (fun _ => rfl) (fun _ => ?_)
  refine wc_ite (fun _ => rfl) (fun _ => ?_)
  refine wc_ite (fun _ => rfl) (fun _ => ?_)
  refine wc_ite (fun _ => rfl) (fun _ => ?_)
  refine wc_ite (fun _ => by simp only [wc_st_ne (show q - 35 ≠ i by omega)]) (fun _ => ?_)
  refine wc_ite (fun _ => rfl) (fun _ => ?_)
  refine wc_ite (fun _ => rfl) (fun _ => ?_)
  refine wc_ite (fun _ => rfl) (fun _ => ?_)
  refine wc_ite (fun _ => rfl) (fun _ => ?_)
  refine wc_ite (fun _ => rfl) (fun _ => ?_)
  refine wc_ite (fun _ => rfl) (fun _ => ?_)
  refine wc_ite (fun _ => rfl) (fun _ => ?_)
  refine wc_ite (fun _ => rfl) (fun _ => ?_)
  refine wc_ite (fun _ => rfl) (fun _ => ?_)
  refine wc_ite (fun _ => rfl) (fun _ => ?_)
  refine wc_ite (fun _ => rfl) (fun _ => ?_)
  refine wc_ite (fun _ => rfl) (fun _ => ?_)
  refine wc_ite (fun _ => rfl) (fun _ => ?_)
  refine wc_ite (fun _ => rfl) (fun _ => ?_)
  refine wc_ite (fun _ => rfl) (fun _ => ?_)
  refine wc_ite (fun _ => rfl) (fun _ => ?_)
  refine wc_ite (fun _ => rfl) (fun _ => ?_)
  refine wc_ite (fun _ => rfl) (fun _ => ?_)
  refine wc_ite (fun _ => rfl) (fun _ => ?_)
  refine wc_ite (fun _ => rfl) (fun _ => ?_)
  refine wc_ite (fun _ => rfl) (fun _ => ?_)
  refine wc_ite (fun _ => rfl) (fun _ => ?_)
  refine wc_ite (fun _ => rfl) (fun _ => ?_)
  refine wc_ite (fun _ => rfl) (fun _ => ?_)
  refine wc_ite (fun _ => rfl) (fun _ => ?_)
  rfl
theorem wc_o_END {Γ : wc_G} {σ μ : wc_St} {i : Nat} {j q : Nat} {x : Int32} (h : q ≠ 35 + i) : wc_cell Γ (wc_st σ 14 i j x) μ q = wc_cell Γ σ μ q := by
  unfold wc_cell
  refine wc_ite (fun _ => rfl) (fun _ => ?_)
  refine wc_ite (fun _ => rfl) (fun _ => ?_)
  refine wc_ite (fun _ => rfl) (fun _ => ?_)
  refine wc_ite (fun _ => rfl) (fun _ => ?_)
  refine wc_ite (fun _ => rfl) (fun _ => ?_)
  refine wc_ite (fun _ => rfl) (fun _ => ?_)
  refine wc_ite (fun _ => rfl) (fun _ => ?_)
  refine wc_ite (fun _ => rfl) (fun _ => ?_)
  refine wc_ite (fun _ => rfl) (fun _ => ?_)
  refine wc_ite (fun _ => by simp only [wc_st_ne (show q - 35 ≠ i by omega)]) (fun _ => ?_)
  refine wc_ite (fun _ => rfl) (fun _ => ?_)
  refine wc_ite (fun _ => rfl) (fun _ => ?_)
  refine wc_ite (fun _ => rfl) (fun _ => ?_)
  refine wc_ite (fun _ => rfl) (fun _ => ?_)
  refine wc_ite (fun _ => rfl) (fun _ => ?_)
  refine wc_ite (fun _ => rfl) (fun _ => ?_)
  refine wc_ite (fun _ => rfl) (fun _ => ?_)
  refine wc_ite (fun _ => rfl) (fun _ => ?_)
  refine wc_ite (fun _ => rfl) (fun _ => ?_)
  refine wc_ite (fun _ => rfl) (fun _ => ?_)
  refine wc_ite (fun _ => rfl) (fun _ => ?_)
  refine wc_ite (fun _ => rfl) (fun _ => ?_)
  refine wc_ite (fun _ => rfl) (fun _ => ?_)
  refine wc_ite (fun _ => rfl) (fun _ => ?_)
  refine wc_ite (fun _ => rfl) (fun _ => ?_)
  refine wc_ite (fun _ => rfl) (fun _ => ?_)
  refine wc_ite (fun _ => rfl) (fun _ => ?_)
  refine wc_ite (fun _ => rfl) (fun _ => ?_)
  refine wc_ite (fun _ => rfl) (fun _ => ?_)
  refine wc_ite (fun _ => rfl) (fun _ => ?_)
  refine wc_ite (fun _ => rfl) (fun _ => ?_)
  refine wc_ite (fun _ => rfl) (fun _ => ?_)
  refine wc_ite (fun _ => rfl) (fun _ => ?_)
  refine wc_ite (fun _ => rfl) (fun _ => ?_)
  refine wc_ite (fun _ => rfl) (fun _ => ?_)
  rfl
theorem wc_o_LCK {Γ : wc_G} {σ μ : wc_St} {i : Nat} {j q : Nat} {x : Int32} (h : q ≠ 40 + i) : wc_cell Γ (wc_st σ 15 i j x) μ q = wc_cell Γ σ μ q := by
  unfold wc_cell
  refine wc_ite (fun _ => rfl) (fun _ => ?_)
  refine wc_ite (fun _ => rfl) (fun _ => ?_)
  refine wc_ite (fun _ => rfl) (fun _ => ?_)
  refine wc_ite (fun _ => rfl) (fun _ => ?_)
  refine wc_ite (fun _ => rfl) (fun _ => ?_)
  refine wc_ite (fun _ => rfl) (fun _ => ?_)
  refine wc_ite (fun _ => rfl) (fun _ => ?_)
  refine wc_ite (fun _ => rfl) (fun _ => ?_)
  refine wc_ite (fun _ => rfl) (fun _ => ?_)
  refine wc_ite (fun _ => rfl) (fun _ => ?_)
  refine wc_ite (fun _ => by rw [wc_st_ne (show q - 40 ≠ i by omega)]) (fun _ => ?_)
  refine wc_ite (fun _ => rfl) (fun _ => ?_)
  refine wc_ite (fun _ => rfl) (fun _ => ?_)
  refine wc_ite (fun _ => rfl) (fun _ => ?_)
  refine wc_ite (fun _ => rfl) (fun _ => ?_)
  refine wc_ite (fun _ => rfl) (fun _ => ?_)
  refine wc_ite (fun _ => rfl) (fun _ => ?_)
  refine wc_ite (fun _ => rfl) (fun _ => ?_)
  refine wc_ite (fun _ => rfl) (fun _ => ?_)
  refine wc_ite (fun _ => rfl) (fun _ => ?_)
  refine wc_ite (fun _ => rfl) (fun _ => ?_)
  refine wc_ite (fun _ => rfl) (fun _ => ?_)
  refine wc_ite (fun _ => rfl) (fun _ => ?_)
  refine wc_ite (fun _ => rfl) (fun _ => ?_)
  refine wc_ite (fun _ => rfl) (fun _ => ?_)
  refine wc_ite (fun _ => rfl) (fun _ => ?_)
  refine wc_ite (fun _ => rfl) (fun _ => ?_)
  refine wc_ite (fun _ => rfl) (fun _ => ?_)
  refine wc_ite (fun _ => rfl) (fun _ => ?_)
  refine wc_ite (fun _ => rfl) (fun _ => ?_)
  refine wc_ite (fun _ => rfl) (fun _ => ?_)
  refine wc_ite (fun _ => rfl) (fun _ => ?_)
  refine wc_ite (fun _ => rfl) (fun _ => ?_)
  refine wc_ite (fun _ => rfl) (fun _ => ?_)
  refine wc_ite (fun _ => rfl) (fun _ => ?_)
  rfl
theorem wc_o_WRT {Γ : wc_G} {σ μ : wc_St} {i : Nat} {j q : Nat} {x : Int32} (h : q ≠ 45 + i) : wc_cell Γ (wc_st σ 16 i j x) μ q = wc_cell Γ σ μ q := by
  unfold wc_cell
  refine wc_ite (fun _ => rfl) (fun _ => ?_)
  refine wc_ite (fun _ => rfl) (fun _ => ?_)
  refine wc_ite (fun _ => rfl) (fun _ => ?_)
  refine wc_ite (fun _ => rfl) (fun _ => ?_)
  refine wc_ite (fun _ => rfl) (fun _ => ?_)
  refine wc_ite (fun _ => rfl) (fun _ => ?_)
  refine wc_ite (fun _ => rfl) (fun _ => ?_)
  refine wc_ite (fun _ => rfl) (fun _ => ?_)
  refine wc_ite (fun _ => rfl) (fun _ => ?_)
  refine wc_ite (fun _ => rfl) (fun _ => ?_)
  refine wc_ite (fun _ => rfl) (fun _ => ?_)
  refine wc_ite (fun _ => by rw [wc_st_ne (show q - 45 ≠ i by omega)]) (fun _ => ?_)
  refine wc_ite (fun _ => rfl) (fun _ => ?_)
  refine wc_ite (fun _ => rfl) (fun _ => ?_)
  refine wc_ite (fun _ => rfl) (fun _ => ?_)
  refine wc_ite (fun _ => rfl) (fun _ => ?_)
  refine wc_ite (fun _ => rfl) (fun _ => ?_)
  refine wc_ite (fun _ => rfl) (fun _ => ?_)
  refine wc_ite (fun _ => rfl) (fun _ => ?_)
  refine wc_ite (fun _ => rfl) (fun _ => ?_)
  refine wc_ite (fun _ => rfl) (fun _ => ?_)
  refine wc_ite (fun _ => rfl) (fun _ => ?_)
  refine wc_ite (fun _ => rfl) (fun _ => ?_)
  refine wc_ite (fun _ => rfl) (fun _ => ?_)
  refine wc_ite (fun _ => rfl) (fun _ => ?_)
  refine wc_ite (fun _ => rfl) (fun _ => ?_)
  refine wc_ite (fun _ => rfl) (fun _ => ?_)
  refine wc_ite (fun _ => rfl) (fun _ => ?_)
  refine wc_ite (fun _ => rfl) (fun _ => ?_)
  refine wc_ite (fun _ => rfl) (fun _ => ?_)
  refine wc_ite (fun _ => rfl) (fun _ => ?_)
  refine wc_ite (fun _ => rfl) (fun _ => ?_)
  refine wc_ite (fun _ => rfl) (fun _ => ?_)
  refine wc_ite (fun _ => rfl) (fun _ => ?_)
  refine wc_ite (fun _ => rfl) (fun _ => ?_)
  rfl
theorem wc_o_MRK {Γ : wc_G} {σ μ : wc_St} {i : Nat} {j q : Nat} {x : Int32} (h : q ≠ 50 + i) : wc_cell Γ (wc_st σ 17 i j x) μ q = wc_cell Γ σ μ q := by
  unfold wc_cell
  refine wc_ite (fun _ => rfl) (fun _ => ?_)
  refine wc_ite (fun _ => rfl) (fun _ => ?_)
  refine wc_ite (fun _ => rfl) (fun _ => ?_)
  refine wc_ite (fun _ => rfl) (fun _ => ?_)
  refine wc_ite (fun _ => rfl) (fun _ => ?_)
  refine wc_ite (fun _ => rfl) (fun _ => ?_)
  refine wc_ite (fun _ => rfl) (fun _ => ?_)
  refine wc_ite (fun _ => rfl) (fun _ => ?_)
  refine wc_ite (fun _ => rfl) (fun _ => ?_)
  refine wc_ite (fun _ => rfl) (fun _ => ?_)
  refine wc_ite (fun _ => rfl) (fun _ => ?_)
  refine wc_ite (fun _ => rfl) (fun _ => ?_)
  refine wc_ite (fun _ => by rw [wc_st_ne (show q - 50 ≠ i by omega)]) (fun _ => ?_)
  refine wc_ite (fun _ => rfl) (fun _ => ?_)
  refine wc_ite (fun _ => rfl) (fun _ => ?_)
  refine wc_ite (fun _ => rfl) (fun _ => ?_)
  refine wc_ite (fun _ => rfl) (fun _ => ?_)
  refine wc_ite (fun _ => rfl) (fun _ => ?_)
  refine wc_ite (fun _ => rfl) (fun _ => ?_)
  refine wc_ite (fun _ => rfl) (fun _ => ?_)
  refine wc_ite (fun _ => rfl) (fun _ => ?_)
  refine wc_ite (fun _ => rfl) (fun _ => ?_)
  refine wc_ite (fun _ => rfl) (fun _ => ?_)
  refine wc_ite (fun _ => rfl) (fun _ => ?_)
  refine wc_ite (fun _ => rfl) (fun _ => ?_)
  refine wc_ite (fun _ => rfl) (fun _ => ?_)
  refine wc_ite (fun _ => rfl) (fun _ => ?_)
  refine wc_ite (fun _ => rfl) (fun _ => ?_)
  refine wc_ite (fun _ => rfl) (fun _ => ?_)
  refine wc_ite (fun _ => rfl) (fun _ => ?_)
  refine wc_ite (fun _ => rfl) (fun _ => ?_)
  refine wc_ite (fun _ => rfl) (fun _ => ?_)
  refine wc_ite (fun _ => rfl) (fun _ => ?_)
  refine wc_ite (fun _ => rfl) (fun _ => ?_)
  refine wc_ite (fun _ => rfl) (fun _ => ?_)
  rfl
theorem wc_o_KND {Γ : wc_G} {σ μ : wc_St} {i : Nat} {j q : Nat} {x : Int32} (h : q ≠ 55 + i) : wc_cell Γ (wc_st σ 18 i j x) μ q = wc_cell Γ σ μ q := by
  unfold wc_cell
  refine wc_ite (fun _ => rfl) (fun _ => ?_)
  refine wc_ite (fun _ => rfl) (fun _ => ?_)
  refine wc_ite (fun _ => rfl) (fun _ => ?_)
  refine wc_ite (fun _ => rfl) (fun _ => ?_)
  refine wc_ite (fun _ => rfl) (fun _ => ?_)
  refine wc_ite (fun _ => rfl) (fun _ => ?_)
  refine wc_ite (fun _ => rfl) (fun _ => ?_)
  refine wc_ite (fun _ => rfl) (fun _ => ?_)
  refine wc_ite (fun _ => rfl) (fun _ => ?_)
  refine wc_ite (fun _ => rfl) (fun _ => ?_)
  refine wc_ite (fun _ => rfl) (fun _ => ?_)
  refine wc_ite (fun _ => rfl) (fun _ => ?_)
  refine wc_ite (fun _ => rfl) (fun _ => ?_)
  refine wc_ite (fun _ => by simp only [wc_st_ne (show q - 55 ≠ i by omega)]) (fun _ => ?_)
  refine wc_ite (fun _ => rfl) (fun _ => ?_)
  refine wc_ite (fun _ => rfl) (fun _ => ?_)
  refine wc_ite (fun _ => rfl) (fun _ => ?_)
  refine wc_ite (fun _ => rfl) (fun _ => ?_)
  refine wc_ite (fun _ => rfl) (fun _ => ?_)
  refine wc_ite (fun _ => rfl) (fun _ => ?_)
  refine wc_ite (fun _ => rfl) (fun _ => ?_)
  refine wc_ite (fun _ => rfl) (fun _ => ?_)
  refine wc_ite (fun _ => rfl) (fun _ => ?_)
  refine wc_ite (fun _ => rfl) (fun _ => ?_)
  refine wc_ite (fun _ => rfl) (fun _ => ?_)
  refine wc_ite (fun _ => rfl) (fun _ => ?_)
  refine wc_ite (fun _ => rfl) (fun _ => ?_)
  refine wc_ite (fun _ => rfl) (fun _ => ?_)
  refine wc_ite (fun _ => rfl) (fun _ => ?_)
  refine wc_ite (fun _ => rfl) (fun _ => ?_)
  refine wc_ite (fun _ => rfl) (fun _ => ?_)
  refine wc_ite (fun _ => rfl) (fun _ => ?_)
  refine wc_ite (fun _ => rfl) (fun _ => ?_)
  refine wc_ite (fun _ => rfl) (fun _ => ?_)
  refine wc_ite (fun _ => rfl) (fun _ => ?_)
  rfl
theorem wc_o_RCV {Γ : wc_G} {σ μ : wc_St} {i : Nat} {j q : Nat} {x : Int32} (h : q ≠ 55 + i) : wc_cell Γ (wc_st σ 19 i j x) μ q = wc_cell Γ σ μ q := by
  unfold wc_cell
  refine wc_ite (fun _ => rfl) (fun _ => ?_)
  refine wc_ite (fun _ => rfl) (fun _ => ?_)
  refine wc_ite (fun _ => rfl) (fun _ => ?_)
  refine wc_ite (fun _ => rfl) (fun _ => ?_)
  refine wc_ite (fun _ => rfl) (fun _ => ?_)
  refine wc_ite (fun _ => rfl) (fun _ => ?_)
  refine wc_ite (fun _ => rfl) (fun _ => ?_)
  refine wc_ite (fun _ => rfl) (fun _ => ?_)
  refine wc_ite (fun _ => rfl) (fun _ => ?_)
  refine wc_ite (fun _ => rfl) (fun _ => ?_)
  refine wc_ite (fun _ => rfl) (fun _ => ?_)
  refine wc_ite (fun _ => rfl) (fun _ => ?_)
  refine wc_ite (fun _ => rfl) (fun _ => ?_)
  refine wc_ite (fun _ => by simp only [wc_st_ne (show q - 55 ≠ i by omega)]) (fun _ => ?_)
  refine wc_ite (fun _ => rfl) (fun _ => ?_)
  refine wc_ite (fun _ => rfl) (fun _ => ?_)
  refine wc_ite (fun _ => rfl) (fun _ => ?_)
  refine wc_ite (fun _ => rfl) (fun _ => ?_)
  refine wc_ite (fun _ => rfl) (fun _ => ?_)
  refine wc_ite (fun _ => rfl) (fun _ => ?_)
  refine wc_ite (fun _ => rfl) (fun _ => ?_)
  refine wc_ite (fun _ => rfl) (fun _ => ?_)
  refine wc_ite (fun _ => rfl) (fun _ => ?_)
  refine wc_ite (fun _ => rfl) (fun _ => ?_)
  refine wc_ite (fun _ => rfl) (fun _ => ?_)
  refine wc_ite (fun _ => rfl) (fun _ => ?_)
  refine wc_ite (fun _ => rfl) (fun _ => ?_)
  refine wc_ite (fun _ => rfl) (fun _ => ?_)
  refine wc_ite (fun _ => rfl) (fun _ => ?_)
  refine wc_ite (fun _ => rfl) (fun _ => ?_)
  refine wc_ite (fun _ => rfl) (fun _ => ?_)
  refine wc_ite (fun _ => rfl) (fun _ => ?_)
  refine wc_ite (fun _ => rfl) (fun _ => ?_)
  refine wc_ite (fun _ => rfl) (fun _ => ?_)
  refine wc_ite (fun _ => rfl) (fun _ => ?_)
  rfl
theorem wc_o_ARR {Γ : wc_G} {σ μ : wc_St} {i : Nat} {j q : Nat} {x : Int32} (h : q ≠ 55 + i) : wc_cell Γ (wc_st σ 20 i j x) μ q = wc_cell Γ σ μ q := by
  unfold wc_cell
  refine wc_ite (fun _ => rfl) (fun _ => ?_)
  refine wc_ite (fun _ => rfl) (fun _ => ?_)
  refine wc_ite (fun _ => rfl) (fun _ => ?_)
  refine wc_ite (fun _ => rfl) (fun _ => ?_)
  refine wc_ite (fun _ => rfl) (fun _ => ?_)
  refine wc_ite (fun _ => rfl) (fun _ => ?_)
  refine wc_ite (fun _ => rfl) (fun _ => ?_)
  refine wc_ite (fun _ => rfl) (fun _ => ?_)
  refine wc_ite (fun _ => rfl) (fun _ => ?_)
  refine wc_ite (fun _ => rfl) (fun _ => ?_)
  refine wc_ite (fun _ => rfl) (fun _ => ?_)
  refine wc_ite (fun _ => rfl) (fun _ => ?_)
  refine wc_ite (fun _ => rfl) (fun _ => ?_)
  refine wc_ite (fun _ => by simp only [wc_st_ne (show q - 55 ≠ i by omega)]) (fun _ => ?_)
  refine wc_ite (fun _ => rfl) (fun _ => ?_)
  refine wc_ite (fun _ => rfl) (fun _ => ?_)
  refine wc_ite (fun _ => rfl) (fun _ => ?_)
  refine wc_ite (fun _ => rfl) (fun _ => ?_)
  refine wc_ite (fun _ => rfl) (fun _ => ?_)
  refine wc_ite (fun _ => rfl) (fun _ => ?_)
  refine wc_ite (fun _ => rfl) (fun _ => ?_)
  refine wc_ite (fun _ => rfl) (fun _ => ?_)
  refine wc_ite (fun _ => rfl) (fun _ => ?_)
  refine wc_ite (fun _ => rfl) (fun _ => ?_)
  refine wc_ite (fun _ => rfl) (fun _ => ?_)
  refine wc_ite (fun _ => rfl) (fun _ => ?_)
  refine wc_ite (fun _ => rfl) (fun _ => ?_)
  refine wc_ite (fun _ => rfl) (fun _ => ?_)
  refine wc_ite (fun _ => rfl) (fun _ => ?_)
  refine wc_ite (fun _ => rfl) (fun _ => ?_)
  refine wc_ite (fun _ => rfl) (fun _ => ?_)
  refine wc_ite (fun _ => rfl) (fun _ => ?_)
  refine wc_ite (fun _ => rfl) (fun _ => ?_)
  refine wc_ite (fun _ => rfl) (fun _ => ?_)
  refine wc_ite (fun _ => rfl) (fun _ => ?_)
  rfl
theorem wc_o_ORD {Γ : wc_G} {σ μ : wc_St} {i : Nat} {j q : Nat} {x : Int32} (h : q ≠ 55 + i) : wc_cell Γ (wc_st σ 21 i j x) μ q = wc_cell Γ σ μ q := by
  unfold wc_cell
  refine wc_ite (fun _ => rfl) (fun _ => ?_)
  refine wc_ite (fun _ => rfl) (fun _ => ?_)
  refine wc_ite (fun _ => rfl) (fun _ => ?_)
  refine wc_ite (fun _ => rfl) (fun _ => ?_)
  refine wc_ite (fun _ => rfl) (fun _ => ?_)
  refine wc_ite (fun _ => rfl) (fun _ => ?_)
  refine wc_ite (fun _ => rfl) (fun _ => ?_)
  refine wc_ite (fun _ => rfl) (fun _ => ?_)
  refine wc_ite (fun _ => rfl) (fun _ => ?_)
  refine wc_ite (fun _ => rfl) (fun _ => ?_)
  refine wc_ite (fun _ => rfl) (fun _ => ?_)
  refine wc_ite (fun _ => rfl) (fun _ => ?_)
  refine wc_ite (fun _ => rfl) (fun _ => ?_)
  refine wc_ite (fun _ => by simp only [wc_st_ne (show q - 55 ≠ i by omega)]) (fun _ => ?_)
  refine wc_ite (fun _ => rfl) (fun _ => ?_)
  refine wc_ite (fun _ => rfl) (fun _ => ?_)
  refine wc_ite (fun _ => rfl) (fun _ => ?_)
  refine wc_ite (fun _ => rfl) (fun _ => ?_)
  refine wc_ite (fun _ => rfl) (fun _ => ?_)
  refine wc_ite (fun _ => rfl) (fun _ => ?_)
  refine wc_ite (fun _ => rfl) (fun _ => ?_)
  refine wc_ite (fun _ => rfl) (fun _ => ?_)
  refine wc_ite (fun _ => rfl) (fun _ => ?_)
  refine wc_ite (fun _ => rfl) (fun _ => ?_)
  refine wc_ite (fun _ => rfl) (fun _ => ?_)
  refine wc_ite (fun _ => rfl) (fun _ => ?_)
  refine wc_ite (fun _ => rfl) (fun _ => ?_)
  refine wc_ite (fun _ => rfl) (fun _ => ?_)
  refine wc_ite (fun _ => rfl) (fun _ => ?_)
  refine wc_ite (fun _ => rfl) (fun _ => ?_)
  refine wc_ite (fun _ => rfl) (fun _ => ?_)
  refine wc_ite (fun _ => rfl) (fun _ => ?_)
  refine wc_ite (fun _ => rfl) (fun _ => ?_)
  refine wc_ite (fun _ => rfl) (fun _ => ?_)
  refine wc_ite (fun _ => rfl) (fun _ => ?_)
  rfl
theorem wc_o_RE {Γ : wc_G} {σ μ : wc_St} {j q : Nat} {x : Int32} (h : q ≠ 70) : wc_cell Γ σ (wc_st μ 30 0 j x) q = wc_cell Γ σ μ q := by
  unfold wc_cell
  refine wc_ite (fun _ => rfl) (fun _ => ?_)
  refine wc_ite (fun _ => rfl) (fun _ => ?_)
  refine wc_ite (fun _ => rfl) (fun _ => ?_)
  refine wc_ite (fun _ => rfl) (fun _ => ?_)
  refine wc_ite (fun _ => rfl) (fun _ => ?_)
  refine wc_ite (fun _ => rfl) (fun _ => ?_)
  refine wc_ite (fun _ => rfl) (fun _ => ?_)
  refine wc_ite (fun _ => rfl) (fun _ => ?_)
  refine wc_ite (fun _ => rfl) (fun _ => ?_)
  refine wc_ite (fun _ => rfl) (fun _ => ?_)
  refine wc_ite (fun _ => rfl) (fun _ => ?_)
  refine wc_ite (fun _ => rfl) (fun _ => ?_)
  refine wc_ite (fun _ => rfl) (fun _ => ?_)
  refine wc_ite (fun _ => rfl) (fun _ => ?_)
  refine wc_ite (fun _ => False.elim (by omega)) (fun _ => ?_)
  refine wc_ite (fun _ => rfl) (fun _ => ?_)
  refine wc_ite (fun _ => rfl) (fun _ => ?_)
  refine wc_ite (fun _ => rfl) (fun _ => ?_)
  refine wc_ite (fun _ => rfl) (fun _ => ?_)
  refine wc_ite (fun _ => rfl) (fun _ => ?_)
  refine wc_ite (fun _ => rfl) (fun _ => ?_)
  refine wc_ite (fun _ => rfl) (fun _ => ?_)
  refine wc_ite (fun _ => rfl) (fun _ => ?_)
  refine wc_ite (fun _ => rfl) (fun _ => ?_)
  refine wc_ite (fun _ => rfl) (fun _ => ?_)
  refine wc_ite (fun _ => rfl) (fun _ => ?_)
  refine wc_ite (fun _ => rfl) (fun _ => ?_)
  refine wc_ite (fun _ => rfl) (fun _ => ?_)
  refine wc_ite (fun _ => rfl) (fun _ => ?_)
  refine wc_ite (fun _ => rfl) (fun _ => ?_)
  refine wc_ite (fun _ => rfl) (fun _ => ?_)
  refine wc_ite (fun _ => rfl) (fun _ => ?_)
  refine wc_ite (fun _ => rfl) (fun _ => ?_)
  refine wc_ite (fun _ => rfl) (fun _ => ?_)
  refine wc_ite (fun _ => rfl) (fun _ => ?_)
  rfl
theorem wc_o_NOW {Γ : wc_G} {σ μ : wc_St} {j q : Nat} {x : Int32} (h : q ≠ 70) : wc_cell Γ σ (wc_st μ 31 0 j x) q = wc_cell Γ σ μ q := by
  unfold wc_cell
  refine wc_ite (fun _ => rfl) (fun _ => ?_)
  refine wc_ite (fun _ => rfl) (fun _ => ?_)
  refine wc_ite (fun _ => rfl) (fun _ => ?_)
  refine wc_ite (fun _ => rfl) (fun _ => ?_)
  refine wc_ite (fun _ => rfl) (fun _ => ?_)
  refine wc_ite (fun _ => rfl) (fun _ => ?_)
  refine wc_ite (fun _ => rfl) (fun _ => ?_)
  refine wc_ite (fun _ => rfl) (fun _ => ?_)
  refine wc_ite (fun _ => rfl) (fun _ => ?_)
  refine wc_ite (fun _ => rfl) (fun _ => ?_)
  refine wc_ite (fun _ => rfl) (fun _ => ?_)
  refine wc_ite (fun _ => rfl) (fun _ => ?_)
  refine wc_ite (fun _ => rfl) (fun _ => ?_)
  refine wc_ite (fun _ => rfl) (fun _ => ?_)
  refine wc_ite (fun _ => False.elim (by omega)) (fun _ => ?_)
  refine wc_ite (fun _ => rfl) (fun _ => ?_)
  refine wc_ite (fun _ => rfl) (fun _ => ?_)
  refine wc_ite (fun _ => rfl) (fun _ => ?_)
  refine wc_ite (fun _ => rfl) (fun _ => ?_)
  refine wc_ite (fun _ => rfl) (fun _ => ?_)
  refine wc_ite (fun _ => rfl) (fun _ => ?_)
  refine wc_ite (fun _ => rfl) (fun _ => ?_)
  refine wc_ite (fun _ => rfl) (fun _ => ?_)
  refine wc_ite (fun _ => rfl) (fun _ => ?_)
  refine wc_ite (fun _ => rfl) (fun _ => ?_)
  refine wc_ite (fun _ => rfl) (fun _ => ?_)
  refine wc_ite (fun _ => rfl) (fun _ => ?_)
  refine wc_ite (fun _ => rfl) (fun _ => ?_)
  refine wc_ite (fun _ => rfl) (fun _ => ?_)
  refine wc_ite (fun _ => rfl) (fun _ => ?_)
  refine wc_ite (fun _ => rfl) (fun _ => ?_)
  refine wc_ite (fun _ => rfl) (fun _ => ?_)
  refine wc_ite (fun _ => rfl) (fun _ => ?_)
  refine wc_ite (fun _ => rfl) (fun _ => ?_)
  refine wc_ite (fun _ => rfl) (fun _ => ?_)
  rfl
theorem wc_o_VERS {Γ : wc_G} {σ μ : wc_St} {j q : Nat} {x : Int32} (h : q ≠ 70) : wc_cell Γ σ (wc_st μ 37 0 j x) q = wc_cell Γ σ μ q := by
  unfold wc_cell
  refine wc_ite (fun _ => rfl) (fun _ => ?_)
  refine wc_ite (fun _ => rfl) (fun _ => ?_)
  refine wc_ite (fun _ => rfl) (fun _ => ?_)
  refine wc_ite (fun _ => rfl) (fun _ => ?_)
  refine wc_ite (fun _ => rfl) (fun _ => ?_)
  refine wc_ite (fun _ => rfl) (fun _ => ?_)
  refine wc_ite (fun _ => rfl) (fun _ => ?_)
  refine wc_ite (fun _ => rfl) (fun _ => ?_)
  refine wc_ite (fun _ => rfl) (fun _ => ?_)
  refine wc_ite (fun _ => rfl) (fun _ => ?_)
  refine wc_ite (fun _ => rfl) (fun _ => ?_)
  refine wc_ite (fun _ => rfl) (fun _ => ?_)
  refine wc_ite (fun _ => rfl) (fun _ => ?_)
  refine wc_ite (fun _ => rfl) (fun _ => ?_)
  refine wc_ite (fun _ => False.elim (by omega)) (fun _ => ?_)
  refine wc_ite (fun _ => rfl) (fun _ => ?_)
  refine wc_ite (fun _ => rfl) (fun _ => ?_)
  refine wc_ite (fun _ => rfl) (fun _ => ?_)
  refine wc_ite (fun _ => rfl) (fun _ => ?_)
  refine wc_ite (fun _ => rfl) (fun _ => ?_)
  refine wc_ite (fun _ => rfl) (fun _ => ?_)
  refine wc_ite (fun _ => rfl) (fun _ => ?_)
  refine wc_ite (fun _ => rfl) (fun _ => ?_)
  refine wc_ite (fun _ => rfl) (fun _ => ?_)
  refine wc_ite (fun _ => rfl) (fun _ => ?_)
  refine wc_ite (fun _ => rfl) (fun _ => ?_)
  refine wc_ite (fun _ => rfl) (fun _ => ?_)
  refine wc_ite (fun _ => rfl) (fun _ => ?_)
  refine wc_ite (fun _ => rfl) (fun _ => ?_)
  refine wc_ite (fun _ => rfl) (fun _ => ?_)
  refine wc_ite (fun _ => rfl) (fun _ => ?_)
  refine wc_ite (fun _ => rfl) (fun _ => ?_)
  refine wc_ite (fun _ => rfl) (fun _ => ?_)
  refine wc_ite (fun _ => rfl) (fun _ => ?_)
  refine wc_ite (fun _ => rfl) (fun _ => ?_)
  rfl
theorem wc_o_RBEG {Γ : wc_G} {σ μ : wc_St} {j q : Nat} {x : Int32} (h : q ≠ 70) : wc_cell Γ σ (wc_st μ 41 0 j x) q = wc_cell Γ σ μ q := by
  unfold wc_cell
  refine wc_ite (fun _ => rfl) (fun _ => ?_)
  refine wc_ite (fun _ => rfl) (fun _ => ?_)
  refine wc_ite (fun _ => rfl) (fun _ => ?_)
  refine wc_ite (fun _ => rfl) (fun _ => ?_)
  refine wc_ite (fun _ => rfl) (fun _ => ?_)
  refine wc_ite (fun _ => rfl) (fun _ => ?_)
  refine wc_ite (fun _ => rfl) (fun _ => ?_)
  refine wc_ite (fun _ => rfl) (fun _ => ?_)
  refine wc_ite (fun _ => rfl) (fun _ => ?_)
  refine wc_ite (fun _ => rfl) (fun _ => ?_)
  refine wc_ite (fun _ => rfl) (fun _ => ?_)
  refine wc_ite (fun _ => rfl) (fun _ => ?_)
  refine wc_ite (fun _ => rfl) (fun _ => ?_)
  refine wc_ite (fun _ => rfl) (fun _ => ?_)
  refine wc_ite (fun _ => False.elim (by omega)) (fun _ => ?_)
  refine wc_ite (fun _ => rfl) (fun _ => ?_)
  refine wc_ite (fun _ => rfl) (fun _ => ?_)
  refine wc_ite (fun _ => rfl) (fun _ => ?_)
  refine wc_ite (fun _ => rfl) (fun _ => ?_)
  refine wc_ite (fun _ => rfl) (fun _ => ?_)
  refine wc_ite (fun _ => rfl) (fun _ => ?_)
  refine wc_ite (fun _ => rfl) (fun _ => ?_)
  refine wc_ite (fun _ => rfl) (fun _ => ?_)
  refine wc_ite (fun _ => rfl) (fun _ => ?_)
  refine wc_ite (fun _ => rfl) (fun _ => ?_)
  refine wc_ite (fun _ => rfl) (fun _ => ?_)
  refine wc_ite (fun _ => rfl) (fun _ => ?_)
  refine wc_ite (fun _ => rfl) (fun _ => ?_)
  refine wc_ite (fun _ => rfl) (fun _ => ?_)
  refine wc_ite (fun _ => rfl) (fun _ => ?_)
  refine wc_ite (fun _ => rfl) (fun _ => ?_)
  refine wc_ite (fun _ => rfl) (fun _ => ?_)
  refine wc_ite (fun _ => rfl) (fun _ => ?_)
  refine wc_ite (fun _ => rfl) (fun _ => ?_)
  refine wc_ite (fun _ => rfl) (fun _ => ?_)
  rfl
theorem wc_o_RSENT {Γ : wc_G} {σ μ : wc_St} {j q : Nat} {x : Int32} (h : q ≠ 70) : wc_cell Γ σ (wc_st μ 52 0 j x) q = wc_cell Γ σ μ q := by
  unfold wc_cell
  refine wc_ite (fun _ => rfl) (fun _ => ?_)
  refine wc_ite (fun _ => rfl) (fun _ => ?_)
  refine wc_ite (fun _ => rfl) (fun _ => ?_)
  refine wc_ite (fun _ => rfl) (fun _ => ?_)
  refine wc_ite (fun _ => rfl) (fun _ => ?_)
  refine wc_ite (fun _ => rfl) (fun _ => ?_)
  refine wc_ite (fun _ => rfl) (fun _ => ?_)
  refine wc_ite (fun _ => rfl) (fun _ => ?_)
  refine wc_ite (fun _ => rfl) (fun _ => ?_)
  refine wc_ite (fun _ => rfl) (fun _ => ?_)
  refine wc_ite (fun _ => rfl) (fun _ => ?_)
  refine wc_ite (fun _ => rfl) (fun _ => ?_)
  refine wc_ite (fun _ => rfl) (fun _ => ?_)
  refine wc_ite (fun _ => rfl) (fun _ => ?_)
  refine wc_ite (fun _ => False.elim (by omega)) (fun _ => ?_)
  refine wc_ite (fun _ => rfl) (fun _ => ?_)
  refine wc_ite (fun _ => rfl) (fun _ => ?_)
  refine wc_ite (fun _ => rfl) (fun _ => ?_)
  refine wc_ite (fun _ => rfl) (fun _ => ?_)
  refine wc_ite (fun _ => rfl) (fun _ => ?_)
  refine wc_ite (fun _ => rfl) (fun _ => ?_)
  refine wc_ite (fun _ => rfl) (fun _ => ?_)
  refine wc_ite (fun _ => rfl) (fun _ => ?_)
  refine wc_ite (fun _ => rfl) (fun _ => ?_)
  refine wc_ite (fun _ => rfl) (fun _ => ?_)
  refine wc_ite (fun _ => rfl) (fun _ => ?_)
  refine wc_ite (fun _ => rfl) (fun _ => ?_)
  refine wc_ite (fun _ => rfl) (fun _ => ?_)
  refine wc_ite (fun _ => rfl) (fun _ => ?_)
  refine wc_ite (fun _ => rfl) (fun _ => ?_)
  refine wc_ite (fun _ => rfl) (fun _ => ?_)
  refine wc_ite (fun _ => rfl) (fun _ => ?_)
  refine wc_ite (fun _ => rfl) (fun _ => ?_)
  refine wc_ite (fun _ => rfl) (fun _ => ?_)
  refine wc_ite (fun _ => rfl) (fun _ => ?_)
  rfl
theorem wc_o_EARLY {Γ : wc_G} {σ μ : wc_St} {j q : Nat} {x : Int32} (h : q ≠ 71) : wc_cell Γ σ (wc_st μ 32 0 j x) q = wc_cell Γ σ μ q := by
  unfold wc_cell
  refine wc_ite (fun _ => rfl) (fun _ => ?_)
  refine wc_ite (fun _ => rfl) (fun _ => ?_)
  refine wc_ite (fun _ => rfl) (fun _ => ?_)
  refine wc_ite (fun _ => rfl) (fun _ => ?_)
  refine wc_ite (fun _ => rfl) (fun _ => ?_)
  refine wc_ite (fun _ => rfl) (fun _ => ?_)
  refine wc_ite (fun _ => rfl) (fun _ => ?_)
  refine wc_ite (fun _ => rfl) (fun _ => ?_)
  refine wc_ite (fun _ => rfl) (fun _ => ?_)
  refine wc_ite (fun _ => rfl) (fun _ => ?_)
  refine wc_ite (fun _ => rfl) (fun _ => ?_)
  refine wc_ite (fun _ => rfl) (fun _ => ?_)
  refine wc_ite (fun _ => rfl) (fun _ => ?_)
  refine wc_ite (fun _ => rfl) (fun _ => ?_)
  refine wc_ite (fun _ => rfl) (fun _ => ?_)
  refine wc_ite (fun _ => False.elim (by omega)) (fun _ => ?_)
  refine wc_ite (fun _ => rfl) (fun _ => ?_)
  refine wc_ite (fun _ => rfl) (fun _ => ?_)
  refine wc_ite (fun _ => rfl) (fun _ => ?_)
  refine wc_ite (fun _ => rfl) (fun _ => ?_)
  refine wc_ite (fun _ => rfl) (fun _ => ?_)
  refine wc_ite (fun _ => rfl) (fun _ => ?_)
  refine wc_ite (fun _ => rfl) (fun _ => ?_)
  refine wc_ite (fun _ => rfl) (fun _ => ?_)
  refine wc_ite (fun _ => rfl) (fun _ => ?_)
  refine wc_ite (fun _ => rfl) (fun _ => ?_)
  refine wc_ite (fun _ => rfl) (fun _ => ?_)
  refine wc_ite (fun _ => rfl) (fun _ => ?_)
  refine wc_ite (fun _ => rfl) (fun _ => ?_)
  refine wc_ite (fun _ => rfl) (fun _ => ?_)
  refine wc_ite (fun _ => rfl) (fun _ => ?_)
  refine wc_ite (fun _ => rfl) (fun _ => ?_)
  refine wc_ite (fun _ => rfl) (fun _ => ?_)
  refine wc_ite (fun _ => rfl) (fun _ => ?_)
  refine wc_ite (fun _ => rfl) (fun _ => ?_)
  rfl
theorem wc_o_LATE {Γ : wc_G} {σ μ : wc_St} {j q : Nat} {x : Int32} (h : q ≠ 72) : wc_cell Γ σ (wc_st μ 33 0 j x) q = wc_cell Γ σ μ q := by
  unfold wc_cell
  refine wc_ite (fun _ => rfl) (fun _ => ?_)
  refine wc_ite (fun _ => rfl) (fun _ => ?_)
  refine wc_ite (fun _ => rfl) (fun _ => ?_)
  refine wc_ite (fun _ => rfl) (fun _ => ?_)
  refine wc_ite (fun _ => rfl) (fun _ => ?_)
  refine wc_ite (fun _ => rfl) (fun _ => ?_)
  refine wc_ite (fun _ => rfl) (fun _ => ?_)
  refine wc_ite (fun _ => rfl) (fun _ => ?_)
  refine wc_ite (fun _ => rfl) (fun _ => ?_)
  refine wc_ite (fun _ => rfl) (fun _ => ?_)
  refine wc_ite (fun _ => rfl) (fun _ => ?_)
  refine wc_ite (fun _ => rfl) (fun _ => ?_)
  refine wc_ite (fun _ => rfl) (fun _ => ?_)
  refine wc_ite (fun _ => rfl) (fun _ => ?_)
  refine wc_ite (fun _ => rfl) (fun _ => ?_)
  refine wc_ite (fun _ => rfl) (fun _ => ?_)
  refine wc_ite (fun _ => False.elim (by omega)) (fun _ => ?_)
  refine wc_ite (fun _ => rfl) (fun _ => ?_)
  refine wc_ite (fun _ => rfl) (fun _ => ?_)
  refine wc_ite (fun _ => rfl) (fun _ => ?_)
  refine wc_ite (fun _ => rfl) (fun _ => ?_)
  refine wc_ite (fun _ => rfl) (fun _ => ?_)
  refine wc_ite (fun _ => rfl) (fun _ => ?_)
  refine wc_ite (fun _ => rfl) (fun _ => ?_)
  refine wc_ite (fun _ => rfl) (fun _ => ?_)
  refine wc_ite (fun _ => rfl) (fun _ => ?_)
  refine wc_ite (fun _ => rfl) (fun _ => ?_)
  refine wc_ite (fun _ => rfl) (fun _ => ?_)
  refine wc_ite (fun _ => rfl) (fun _ => ?_)
  refine wc_ite (fun _ => rfl) (fun _ => ?_)
  refine wc_ite (fun _ => rfl) (fun _ => ?_)
  refine wc_ite (fun _ => rfl) (fun _ => ?_)
  refine wc_ite (fun _ => rfl) (fun _ => ?_)
  refine wc_ite (fun _ => rfl) (fun _ => ?_)
  refine wc_ite (fun _ => rfl) (fun _ => ?_)
  rfl
theorem wc_o_SLOW {Γ : wc_G} {σ μ : wc_St} {j q : Nat} {x : Int32} (h : q ≠ 73) : wc_cell Γ σ (wc_st μ 34 0 j x) q = wc_cell Γ σ μ q := by
  unfold wc_cell
  refine wc_ite (fun _ => rfl) (fun _ => ?_)
  refine wc_ite (fun _ => rfl) (fun _ => ?_)
  refine wc_ite (fun _ => rfl) (fun _ => ?_)
  refine wc_ite (fun _ => rfl) (fun _ => ?_)
  refine wc_ite (fun _ => rfl) (fun _ => ?_)
  refine wc_ite (fun _ => rfl) (fun _ => ?_)
  refine wc_ite (fun _ => rfl) (fun _ => ?_)
  refine wc_ite (fun _ => rfl) (fun _ => ?_)
  refine wc_ite (fun _ => rfl) (fun _ => ?_)
  refine wc_ite (fun _ => rfl) (fun _ => ?_)
  refine wc_ite (fun _ => rfl) (fun _ => ?_)
  refine wc_ite (fun _ => rfl) (fun _ => ?_)
  refine wc_ite (fun _ => rfl) (fun _ => ?_)
  refine wc_ite (fun _ => rfl) (fun _ => ?_)
  refine wc_ite (fun _ => rfl) (fun _ => ?_)
  refine wc_ite (fun _ => rfl) (fun _ => ?_)
  refine wc_ite (fun _ => rfl) (fun _ => ?_)
  refine wc_ite (fun _ => False.elim (by omega)) (fun _ => ?_)
  refine wc_ite (fun _ => rfl) (fun _ => ?_)
  refine wc_ite (fun _ => rfl) (fun _ => ?_)
  refine wc_ite (fun _ => rfl) (fun _ => ?_)
  refine wc_ite (fun _ => rfl) (fun _ => ?_)
  refine wc_ite (fun _ => rfl) (fun _ => ?_)
  refine wc_ite (fun _ => rfl) (fun _ => ?_)
  refine wc_ite (fun _ => rfl) (fun _ => ?_)
  refine wc_ite (fun _ => rfl) (fun _ => ?_)
  refine wc_ite (fun _ => rfl) (fun _ => ?_)
  refine wc_ite (fun _ => rfl) (fun _ => ?_)
  refine wc_ite (fun _ => rfl) (fun _ => ?_)
  refine wc_ite (fun _ => rfl) (fun _ => ?_)
  refine wc_ite (fun _ => rfl) (fun _ => ?_)
  refine wc_ite (fun _ => rfl) (fun _ => ?_)
  refine wc_ite (fun _ => rfl) (fun _ => ?_)
  refine wc_ite (fun _ => rfl) (fun _ => ?_)
  refine wc_ite (fun _ => rfl) (fun _ => ?_)
  rfl
theorem wc_o_DOWN {Γ : wc_G} {σ μ : wc_St} {j q : Nat} {x : Int32} (h : q ≠ 74) : wc_cell Γ σ (wc_st μ 35 0 j x) q = wc_cell Γ σ μ q := by
  unfold wc_cell
  refine wc_ite (fun _ => rfl) (fun _ => ?_)
  refine wc_ite (fun _ => rfl) (fun _ => ?_)
  refine wc_ite (fun _ => rfl) (fun _ => ?_)
  refine wc_ite (fun _ => rfl) (fun _ => ?_)
  refine wc_ite (fun _ => rfl) (fun _ => ?_)
  refine wc_ite (fun _ => rfl) (fun _ => ?_)
  refine wc_ite (fun _ => rfl) (fun _ => ?_)
  refine wc_ite (fun _ => rfl) (fun _ => ?_)
  refine wc_ite (fun _ => rfl) (fun _ => ?_)
  refine wc_ite (fun _ => rfl) (fun _ => ?_)
  refine wc_ite (fun _ => rfl) (fun _ => ?_)
  refine wc_ite (fun _ => rfl) (fun _ => ?_)
  refine wc_ite (fun _ => rfl) (fun _ => ?_)
  refine wc_ite (fun _ => rfl) (fun _ => ?_)
  refine wc_ite (fun _ => rfl) (fun _ => ?_)
  refine wc_ite (fun _ => rfl) (fun _ => ?_)
  refine wc_ite (fun _ => rfl) (fun _ => ?_)
  refine wc_ite (fun _ => rfl) (fun _ => ?_)
  refine wc_ite (fun _ => False.elim (by omega)) (fun _ => ?_)
  refine wc_ite (fun _ => rfl) (fun _ => ?_)
  refine wc_ite (fun _ => rfl) (fun _ => ?_)
  refine wc_ite (fun _ => rfl) (fun _ => ?_)
  refine wc_ite (fun _ => rfl) (fun _ => ?_)
  refine wc_ite (fun _ => rfl) (fun _ => ?_)
  refine wc_ite (fun _ => rfl) (fun _ => ?_)
  refine wc_ite (fun _ => rfl) (fun _ => ?_)
  refine wc_ite (fun _ => rfl) (fun _ => ?_)
  refine wc_ite (fun _ => rfl) (fun _ => ?_)
  refine wc_ite (fun _ => rfl) (fun _ => ?_)
  refine wc_ite (fun _ => rfl) (fun _ => ?_)
  refine wc_ite (fun _ => rfl) (fun _ => ?_)
  refine wc_ite (fun _ => rfl) (fun _ => ?_)
  refine wc_ite (fun _ => rfl) (fun _ => ?_)
  refine wc_ite (fun _ => rfl) (fun _ => ?_)
  refine wc_ite (fun _ => rfl) (fun _ => ?_)
  rfl
theorem wc_o_RBND {Γ : wc_G} {σ μ : wc_St} {j q : Nat} {x : Int32} (h : q ≠ 75) : wc_cell Γ σ (wc_st μ 36 0 j x) q = wc_cell Γ σ μ q := by
  unfold wc_cell
  refine wc_ite (fun _ => rfl) (fun _ => ?_)
  refine wc_ite (fun _ => rfl) (fun _ => ?_)
  refine wc_ite (fun _ => rfl) (fun _ => ?_)
  refine wc_ite (fun _ => rfl) (fun _ => ?_)
  refine wc_ite (fun _ => rfl) (fun _ => ?_)
  refine wc_ite (fun _ => rfl) (fun _ => ?_)
  refine wc_ite (fun _ => rfl) (fun _ => ?_)
  refine wc_ite (fun _ => rfl) (fun _ => ?_)
  refine wc_ite (fun _ => rfl) (fun _ => ?_)
  refine wc_ite (fun _ => rfl) (fun _ => ?_)
  refine wc_ite (fun _ => rfl) (fun _ => ?_)
  refine wc_ite (fun _ => rfl) (fun _ => ?_)
  refine wc_ite (fun _ => rfl) (fun _ => ?_)
  refine wc_ite (fun _ => rfl) (fun _ => ?_)
  refine wc_ite (fun _ => rfl) (fun _ => ?_)
  refine wc_ite (fun _ => rfl) (fun _ => ?_)
  refine wc_ite (fun _ => rfl) (fun _ => ?_)
  refine wc_ite (fun _ => rfl) (fun _ => ?_)
  refine wc_ite (fun _ => rfl) (fun _ => ?_)
  refine wc_ite (fun _ => False.elim (by omega)) (fun _ => ?_)
  refine wc_ite (fun _ => rfl) (fun _ => ?_)
  refine wc_ite (fun _ => rfl) (fun _ => ?_)
  refine wc_ite (fun _ => rfl) (fun _ => ?_)
  refine wc_ite (fun _ => rfl) (fun _ => ?_)
  refine wc_ite (fun _ => rfl) (fun _ => ?_)
  refine wc_ite (fun _ => rfl) (fun _ => ?_)
  refine wc_ite (fun _ => rfl) (fun _ => ?_)
  refine wc_ite (fun _ => rfl) (fun _ => ?_)
  refine wc_ite (fun _ => rfl) (fun _ => ?_)
  refine wc_ite (fun _ => rfl) (fun _ => ?_)
  refine wc_ite (fun _ => rfl) (fun _ => ?_)
  refine wc_ite (fun _ => rfl) (fun _ => ?_)
  refine wc_ite (fun _ => rfl) (fun _ => ?_)
  refine wc_ite (fun _ => rfl) (fun _ => ?_)
  refine wc_ite (fun _ => rfl) (fun _ => ?_)
  rfl
theorem wc_o_VKEY {Γ : wc_G} {σ μ : wc_St} {j q : Nat} {x : Int32} (h : q ≠ 76) : wc_cell Γ σ (wc_st μ 38 0 j x) q = wc_cell Γ σ μ q := by
  unfold wc_cell
  refine wc_ite (fun _ => rfl) (fun _ => ?_)
  refine wc_ite (fun _ => rfl) (fun _ => ?_)
  refine wc_ite (fun _ => rfl) (fun _ => ?_)
  refine wc_ite (fun _ => rfl) (fun _ => ?_)
  refine wc_ite (fun _ => rfl) (fun _ => ?_)
  refine wc_ite (fun _ => rfl) (fun _ => ?_)
  refine wc_ite (fun _ => rfl) (fun _ => ?_)
  refine wc_ite (fun _ => rfl) (fun _ => ?_)
  refine wc_ite (fun _ => rfl) (fun _ => ?_)
  refine wc_ite (fun _ => rfl) (fun _ => ?_)
  refine wc_ite (fun _ => rfl) (fun _ => ?_)
  refine wc_ite (fun _ => rfl) (fun _ => ?_)
  refine wc_ite (fun _ => rfl) (fun _ => ?_)
  refine wc_ite (fun _ => rfl) (fun _ => ?_)
  refine wc_ite (fun _ => rfl) (fun _ => ?_)
  refine wc_ite (fun _ => rfl) (fun _ => ?_)
  refine wc_ite (fun _ => rfl) (fun _ => ?_)
  refine wc_ite (fun _ => rfl) (fun _ => ?_)
  refine wc_ite (fun _ => rfl) (fun _ => ?_)
  refine wc_ite (fun _ => rfl) (fun _ => ?_)
  refine wc_ite (fun _ => False.elim (by omega)) (fun _ => ?_)
  refine wc_ite (fun _ => rfl) (fun _ => ?_)
  refine wc_ite (fun _ => rfl) (fun _ => ?_)
  refine wc_ite (fun _ => rfl) (fun _ => ?_)
  refine wc_ite (fun _ => rfl) (fun _ => ?_)
  refine wc_ite (fun _ => rfl) (fun _ => ?_)
  refine wc_ite (fun _ => rfl) (fun _ => ?_)
  refine wc_ite (fun _ => rfl) (fun _ => ?_)
  refine wc_ite (fun _ => rfl) (fun _ => ?_)
  refine wc_ite (fun _ => rfl) (fun _ => ?_)
  refine wc_ite (fun _ => rfl) (fun _ => ?_)
  refine wc_ite (fun _ => rfl) (fun _ => ?_)
  refine wc_ite (fun _ => rfl) (fun _ => ?_)
  refine wc_ite (fun _ => rfl) (fun _ => ?_)
  refine wc_ite (fun _ => rfl) (fun _ => ?_)
  rfl
theorem wc_o_VSTP {Γ : wc_G} {σ μ : wc_St} {j q : Nat} {x : Int32} (h : q ≠ 77) : wc_cell Γ σ (wc_st μ 39 0 j x) q = wc_cell Γ σ μ q := by
  unfold wc_cell
  refine wc_ite (fun _ => rfl) (fun _ => ?_)
  refine wc_ite (fun _ => rfl) (fun _ => ?_)
  refine wc_ite (fun _ => rfl) (fun _ => ?_)
  refine wc_ite (fun _ => rfl) (fun _ => ?_)
  refine wc_ite (fun _ => rfl) (fun _ => ?_)
  refine wc_ite (fun _ => rfl) (fun _ => ?_)
  refine wc_ite (fun _ => rfl) (fun _ => ?_)
  refine wc_ite (fun _ => rfl) (fun _ => ?_)
  refine wc_ite (fun _ => rfl) (fun _ => ?_)
  refine wc_ite (fun _ => rfl) (fun _ => ?_)
  refine wc_ite (fun _ => rfl) (fun _ => ?_)
  refine wc_ite (fun _ => rfl) (fun _ => ?_)
  refine wc_ite (fun _ => rfl) (fun _ => ?_)
  refine wc_ite (fun _ => rfl) (fun _ => ?_)
  refine wc_ite (fun _ => rfl) (fun _ => ?_)
  refine wc_ite (fun _ => rfl) (fun _ => ?_)
  refine wc_ite (fun _ => rfl) (fun _ => ?_)
  refine wc_ite (fun _ => rfl) (fun _ => ?_)
  refine wc_ite (fun _ => rfl) (fun _ => ?_)
  refine wc_ite (fun _ => rfl) (fun _ => ?_)
  refine wc_ite (fun _ => rfl) (fun _ => ?_)
  refine wc_ite (fun _ => False.elim (by omega)) (fun _ => ?_)
  refine wc_ite (fun _ => rfl) (fun _ => ?_)
  refine wc_ite (fun _ => rfl) (fun _ => ?_)
  refine wc_ite (fun _ => rfl) (fun _ => ?_)
  refine wc_ite (fun _ => rfl) (fun _ => ?_)
  refine wc_ite (fun _ => rfl) (fun _ => ?_)
  refine wc_ite (fun _ => rfl) (fun _ => ?_)
  refine wc_ite (fun _ => rfl) (fun _ => ?_)
  refine wc_ite (fun _ => rfl) (fun _ => ?_)
  refine wc_ite (fun _ => rfl) (fun _ => ?_)
  refine wc_ite (fun _ => rfl) (fun _ => ?_)
  refine wc_ite (fun _ => rfl) (fun _ => ?_)
  refine wc_ite (fun _ => rfl) (fun _ => ?_)
  refine wc_ite (fun _ => rfl) (fun _ => ?_)
  rfl
theorem wc_o_VVAL {Γ : wc_G} {σ μ : wc_St} {j q : Nat} {x : Int32} (h : q ≠ 78) : wc_cell Γ σ (wc_st μ 40 0 j x) q = wc_cell Γ σ μ q := by
  unfold wc_cell
  refine wc_ite (fun _ => rfl) (fun _ => ?_)
  refine wc_ite (fun _ => rfl) (fun _ => ?_)
  refine wc_ite (fun _ => rfl) (fun _ => ?_)
  refine wc_ite (fun _ => rfl) (fun _ => ?_)
  refine wc_ite (fun _ => rfl) (fun _ => ?_)
  refine wc_ite (fun _ => rfl) (fun _ => ?_)
  refine wc_ite (fun _ => rfl) (fun _ => ?_)
  refine wc_ite (fun _ => rfl) (fun _ => ?_)
  refine wc_ite (fun _ => rfl) (fun _ => ?_)
  refine wc_ite (fun _ => rfl) (fun _ => ?_)
  refine wc_ite (fun _ => rfl) (fun _ => ?_)
  refine wc_ite (fun _ => rfl) (fun _ => ?_)
  refine wc_ite (fun _ => rfl) (fun _ => ?_)
  refine wc_ite (fun _ => rfl) (fun _ => ?_)
  refine wc_ite (fun _ => rfl) (fun _ => ?_)
  refine wc_ite (fun _ => rfl) (fun _ => ?_)
  refine wc_ite (fun _ => rfl) (fun _ => ?_)
  refine wc_ite (fun _ => rfl) (fun _ => ?_)
  refine wc_ite (fun _ => rfl) (fun _ => ?_)
  refine wc_ite (fun _ => rfl) (fun _ => ?_)
  refine wc_ite (fun _ => rfl) (fun _ => ?_)
  refine wc_ite (fun _ => rfl) (fun _ => ?_)
  refine wc_ite (fun _ => False.elim (by omega)) (fun _ => ?_)
  refine wc_ite (fun _ => rfl) (fun _ => ?_)
  refine wc_ite (fun _ => rfl) (fun _ => ?_)
  refine wc_ite (fun _ => rfl) (fun _ => ?_)
  refine wc_ite (fun _ => rfl) (fun _ => ?_)
  refine wc_ite (fun _ => rfl) (fun _ => ?_)
  refine wc_ite (fun _ => rfl) (fun _ => ?_)
  refine wc_ite (fun _ => rfl) (fun _ => ?_)
  refine wc_ite (fun _ => rfl) (fun _ => ?_)
  refine wc_ite (fun _ => rfl) (fun _ => ?_)
  refine wc_ite (fun _ => rfl) (fun _ => ?_)
  refine wc_ite (fun _ => rfl) (fun _ => ?_)
  refine wc_ite (fun _ => rfl) (fun _ => ?_)
  rfl
theorem wc_o_RSTA {Γ : wc_G} {σ μ : wc_St} {j q : Nat} {x : Int32} (h : q ≠ 79) : wc_cell Γ σ (wc_st μ 42 0 j x) q = wc_cell Γ σ μ q := by
  unfold wc_cell
  refine wc_ite (fun _ => rfl) (fun _ => ?_)
  refine wc_ite (fun _ => rfl) (fun _ => ?_)
  refine wc_ite (fun _ => rfl) (fun _ => ?_)
  refine wc_ite (fun _ => rfl) (fun _ => ?_)
  refine wc_ite (fun _ => rfl) (fun _ => ?_)
  refine wc_ite (fun _ => rfl) (fun _ => ?_)
  refine wc_ite (fun _ => rfl) (fun _ => ?_)
  refine wc_ite (fun _ => rfl) (fun _ => ?_)
  refine wc_ite (fun _ => rfl) (fun _ => ?_)
  refine wc_ite (fun _ => rfl) (fun _ => ?_)
  refine wc_ite (fun _ => rfl) (fun _ => ?_)
  refine wc_ite (fun _ => rfl) (fun _ => ?_)
  refine wc_ite (fun _ => rfl) (fun _ => ?_)
  refine wc_ite (fun _ => rfl) (fun _ => ?_)
  refine wc_ite (fun _ => rfl) (fun _ => ?_)
  refine wc_ite (fun _ => rfl) (fun _ => ?_)
  refine wc_ite (fun _ => rfl) (fun _ => ?_)
  refine wc_ite (fun _ => rfl) (fun _ => ?_)
  refine wc_ite (fun _ => rfl) (fun _ => ?_)
  refine wc_ite (fun _ => rfl) (fun _ => ?_)
  refine wc_ite (fun _ => rfl) (fun _ => ?_)
  refine wc_ite (fun _ => rfl) (fun _ => ?_)
  refine wc_ite (fun _ => rfl) (fun _ => ?_)
  refine wc_ite (fun _ => False.elim (by omega)) (fun _ => ?_)
  refine wc_ite (fun _ => rfl) (fun _ => ?_)
  refine wc_ite (fun _ => rfl) (fun _ => ?_)
  refine wc_ite (fun _ => rfl) (fun _ => ?_)
  refine wc_ite (fun _ => rfl) (fun _ => ?_)
  refine wc_ite (fun _ => rfl) (fun _ => ?_)
  refine wc_ite (fun _ => rfl) (fun _ => ?_)
  refine wc_ite (fun _ => rfl) (fun _ => ?_)
  refine wc_ite (fun _ => rfl) (fun _ => ?_)
  refine wc_ite (fun _ => rfl) (fun _ => ?_)
  refine wc_ite (fun _ => rfl) (fun _ => ?_)
  refine wc_ite (fun _ => rfl) (fun _ => ?_)
  rfl
theorem wc_o_AGE {Γ : wc_G} {σ μ : wc_St} {j q : Nat} {x : Int32} (h : q ≠ 80) : wc_cell Γ σ (wc_st μ 43 0 j x) q = wc_cell Γ σ μ q := by
  unfold wc_cell
  refine wc_ite (fun _ => rfl) (fun _ => ?_)
  refine wc_ite (fun _ => rfl) (fun _ => ?_)
  refine wc_ite (fun _ => rfl) (fun _ => ?_)
  refine wc_ite (fun _ => rfl) (fun _ => ?_)
  refine wc_ite (fun _ => rfl) (fun _ => ?_)
  refine wc_ite (fun _ => rfl) (fun _ => ?_)
  refine wc_ite (fun _ => rfl) (fun _ => ?_)
  refine wc_ite (fun _ => rfl) (fun _ => ?_)
  refine wc_ite (fun _ => rfl) (fun _ => ?_)
  refine wc_ite (fun _ => rfl) (fun _ => ?_)
  refine wc_ite (fun _ => rfl) (fun _ => ?_)
  refine wc_ite (fun _ => rfl) (fun _ => ?_)
  refine wc_ite (fun _ => rfl) (fun _ => ?_)
  refine wc_ite (fun _ => rfl) (fun _ => ?_)
  refine wc_ite (fun _ => rfl) (fun _ => ?_)
  refine wc_ite (fun _ => rfl) (fun _ => ?_)
  refine wc_ite (fun _ => rfl) (fun _ => ?_)
  refine wc_ite (fun _ => rfl) (fun _ => ?_)
  refine wc_ite (fun _ => rfl) (fun _ => ?_)
  refine wc_ite (fun _ => rfl) (fun _ => ?_)
  refine wc_ite (fun _ => rfl) (fun _ => ?_)
  refine wc_ite (fun _ => rfl) (fun _ => ?_)
  refine wc_ite (fun _ => rfl) (fun _ => ?_)
  refine wc_ite (fun _ => rfl) (fun _ => ?_)
  refine wc_ite (fun _ => False.elim (by omega)) (fun _ => ?_)
  refine wc_ite (fun _ => rfl) (fun _ => ?_)
  refine wc_ite (fun _ => rfl) (fun _ => ?_)
  refine wc_ite (fun _ => rfl) (fun _ => ?_)
  refine wc_ite (fun _ => rfl) (fun _ => ?_)
  refine wc_ite (fun _ => rfl) (fun _ => ?_)
  refine wc_ite (fun _ => rfl) (fun _ => ?_)
  refine wc_ite (fun _ => rfl) (fun _ => ?_)
  refine wc_ite (fun _ => rfl) (fun _ => ?_)
  refine wc_ite (fun _ => rfl) (fun _ => ?_)
  refine wc_ite (fun _ => rfl) (fun _ => ?_)
  rfl
theorem wc_o_RSTP {Γ : wc_G} {σ μ : wc_St} {j q : Nat} {x : Int32} (h : q ≠ 81) : wc_cell Γ σ (wc_st μ 44 0 j x) q = wc_cell Γ σ μ q := by
  unfold wc_cell
  refine wc_ite (fun _ => rfl) (fun _ => ?_)
  refine wc_ite (fun _ => rfl) (fun _ => ?_)
  refine wc_ite (fun _ => rfl) (fun _ => ?_)
  refine wc_ite (fun _ => rfl) (fun _ => ?_)
  refine wc_ite (fun _ => rfl) (fun _ => ?_)
  refine wc_ite (fun _ => rfl) (fun _ => ?_)
  refine wc_ite (fun _ => rfl) (fun _ => ?_)
  refine wc_ite (fun _ => rfl) (fun _ => ?_)
  refine wc_ite (fun _ => rfl) (fun _ => ?_)
  refine wc_ite (fun _ => rfl) (fun _ => ?_)
  refine wc_ite (fun _ => rfl) (fun _ => ?_)
  refine wc_ite (fun _ => rfl) (fun _ => ?_)
  refine wc_ite (fun _ => rfl) (fun _ => ?_)
  refine wc_ite (fun _ => rfl) (fun _ => ?_)
  refine wc_ite (fun _ => rfl) (fun _ => ?_)
  refine wc_ite (fun _ => rfl) (fun _ => ?_)
  refine wc_ite (fun _ => rfl) (fun _ => ?_)
  refine wc_ite (fun _ => rfl) (fun _ => ?_)
  refine wc_ite (fun _ => rfl) (fun _ => ?_)
  refine wc_ite (fun _ => rfl) (fun _ => ?_)
  refine wc_ite (fun _ => rfl) (fun _ => ?_)
  refine wc_ite (fun _ => rfl) (fun _ => ?_)
  refine wc_ite (fun _ => rfl) (fun _ => ?_)
  refine wc_ite (fun _ => rfl) (fun _ => ?_)
  refine wc_ite (fun _ => rfl) (fun _ => ?_)
  refine wc_ite (fun _ => False.elim (by omega)) (fun _ => ?_)
  refine wc_ite (fun _ => rfl) (fun _ => ?_)
  refine wc_ite (fun _ => rfl) (fun _ => ?_)
  refine wc_ite (fun _ => rfl) (fun _ => ?_)
  refine wc_ite (fun _ => rfl) (fun _ => ?_)
  refine wc_ite (fun _ => rfl) (fun _ => ?_)
  refine wc_ite (fun _ => rfl) (fun _ => ?_)
  refine wc_ite (fun _ => rfl) (fun _ => ?_)
  refine wc_ite (fun _ => rfl) (fun _ => ?_)
  refine wc_ite (fun _ => rfl) (fun _ => ?_)
  rfl
theorem wc_o_RFLR {Γ : wc_G} {σ μ : wc_St} {j q : Nat} {x : Int32} (h : q ≠ 82) : wc_cell Γ σ (wc_st μ 45 0 j x) q = wc_cell Γ σ μ q := by
  unfold wc_cell
  refine wc_ite (fun _ => rfl) (fun _ => ?_)
  refine wc_ite (fun _ => rfl) (fun _ => ?_)
  refine wc_ite (fun _ => rfl) (fun _ => ?_)
  refine wc_ite (fun _ => rfl) (fun _ => ?_)
  refine wc_ite (fun _ => rfl) (fun _ => ?_)
  refine wc_ite (fun _ => rfl) (fun _ => ?_)
  refine wc_ite (fun _ => rfl) (fun _ => ?_)
  refine wc_ite (fun _ => rfl) (fun _ => ?_)
  refine wc_ite (fun _ => rfl) (fun _ => ?_)
  refine wc_ite (fun _ => rfl) (fun _ => ?_)
  refine wc_ite (fun _ => rfl) (fun _ => ?_)
  refine wc_ite (fun _ => rfl) (fun _ => ?_)
  refine wc_ite (fun _ => rfl) (fun _ => ?_)
  refine wc_ite (fun _ => rfl) (fun _ => ?_)
  refine wc_ite (fun _ => rfl) (fun _ => ?_)
  refine wc_ite (fun _ => rfl) (fun _ => ?_)
  refine wc_ite (fun _ => rfl) (fun _ => ?_)
  refine wc_ite (fun _ => rfl) (fun _ => ?_)
  refine wc_ite (fun _ => rfl) (fun _ => ?_)
  refine wc_ite (fun _ => rfl) (fun _ => ?_)
  refine wc_ite (fun _ => rfl) (fun _ => ?_)
  refine wc_ite (fun _ => rfl) (fun _ => ?_)
  refine wc_ite (fun _ => rfl) (fun _ => ?_)
  refine wc_ite (fun _ => rfl) (fun _ => ?_)
  refine wc_ite (fun _ => rfl) (fun _ => ?_)
  refine wc_ite (fun _ => rfl) (fun _ => ?_)
  refine wc_ite (fun _ => False.elim (by omega)) (fun _ => ?_)
  refine wc_ite (fun _ => rfl) (fun _ => ?_)
  refine wc_ite (fun _ => rfl) (fun _ => ?_)
  refine wc_ite (fun _ => rfl) (fun _ => ?_)
  refine wc_ite (fun _ => rfl) (fun _ => ?_)
  refine wc_ite (fun _ => rfl) (fun _ => ?_)
  refine wc_ite (fun _ => rfl) (fun _ => ?_)
  refine wc_ite (fun _ => rfl) (fun _ => ?_)
  refine wc_ite (fun _ => rfl) (fun _ => ?_)
  rfl
theorem wc_o_ENDED {Γ : wc_G} {σ μ : wc_St} {j q : Nat} {x : Int32} (h : q ≠ 83) : wc_cell Γ σ (wc_st μ 46 0 j x) q = wc_cell Γ σ μ q := by
  unfold wc_cell
  refine wc_ite (fun _ => rfl) (fun _ => ?_)
  refine wc_ite (fun _ => rfl) (fun _ => ?_)
  refine wc_ite (fun _ => rfl) (fun _ => ?_)
  refine wc_ite (fun _ => rfl) (fun _ => ?_)
  refine wc_ite (fun _ => rfl) (fun _ => ?_)
  refine wc_ite (fun _ => rfl) (fun _ => ?_)
  refine wc_ite (fun _ => rfl) (fun _ => ?_)
  refine wc_ite (fun _ => rfl) (fun _ => ?_)
  refine wc_ite (fun _ => rfl) (fun _ => ?_)
  refine wc_ite (fun _ => rfl) (fun _ => ?_)
  refine wc_ite (fun _ => rfl) (fun _ => ?_)
  refine wc_ite (fun _ => rfl) (fun _ => ?_)
  refine wc_ite (fun _ => rfl) (fun _ => ?_)
  refine wc_ite (fun _ => rfl) (fun _ => ?_)
  refine wc_ite (fun _ => rfl) (fun _ => ?_)
  refine wc_ite (fun _ => rfl) (fun _ => ?_)
  refine wc_ite (fun _ => rfl) (fun _ => ?_)
  refine wc_ite (fun _ => rfl) (fun _ => ?_)
  refine wc_ite (fun _ => rfl) (fun _ => ?_)
  refine wc_ite (fun _ => rfl) (fun _ => ?_)
  refine wc_ite (fun _ => rfl) (fun _ => ?_)
  refine wc_ite (fun _ => rfl) (fun _ => ?_)
  refine wc_ite (fun _ => rfl) (fun _ => ?_)
  refine wc_ite (fun _ => rfl) (fun _ => ?_)
  refine wc_ite (fun _ => rfl) (fun _ => ?_)
  refine wc_ite (fun _ => rfl) (fun _ => ?_)
  refine wc_ite (fun _ => rfl) (fun _ => ?_)
  refine wc_ite (fun _ => False.elim (by omega)) (fun _ => ?_)
  refine wc_ite (fun _ => rfl) (fun _ => ?_)
  refine wc_ite (fun _ => rfl) (fun _ => ?_)
  refine wc_ite (fun _ => rfl) (fun _ => ?_)
  refine wc_ite (fun _ => rfl) (fun _ => ?_)
  refine wc_ite (fun _ => rfl) (fun _ => ?_)
  refine wc_ite (fun _ => rfl) (fun _ => ?_)
  refine wc_ite (fun _ => rfl) (fun _ => ?_)
  rfl
theorem wc_o_LOCK {Γ : wc_G} {σ μ : wc_St} {j q : Nat} {x : Int32} (h : q ≠ 84) : wc_cell Γ σ (wc_st μ 47 0 j x) q = wc_cell Γ σ μ q := by
  unfold wc_cell
  refine wc_ite (fun _ => rfl) (fun _ => ?_)
  refine wc_ite (fun _ => rfl) (fun _ => ?_)
  refine wc_ite (fun _ => rfl) (fun _ => ?_)
  refine wc_ite (fun _ => rfl) (fun _ => ?_)
  refine wc_ite (fun _ => rfl) (fun _ => ?_)
  refine wc_ite (fun _ => rfl) (fun _ => ?_)
  refine wc_ite (fun _ => rfl) (fun _ => ?_)
  refine wc_ite (fun _ => rfl) (fun _ => ?_)
  refine wc_ite (fun _ => rfl) (fun _ => ?_)
  refine wc_ite (fun _ => rfl) (fun _ => ?_)
  refine wc_ite (fun _ => rfl) (fun _ => ?_)
  refine wc_ite (fun _ => rfl) (fun _ => ?_)
  refine wc_ite (fun _ => rfl) (fun _ => ?_)
  refine wc_ite (fun _ => rfl) (fun _ => ?_)
  refine wc_ite (fun _ => rfl) (fun _ => ?_)
  refine wc_ite (fun _ => rfl) (fun _ => ?_)
  refine wc_ite (fun _ => rfl) (fun _ => ?_)
  refine wc_ite (fun _ => rfl) (fun _ => ?_)
  refine wc_ite (fun _ => rfl) (fun _ => ?_)
  refine wc_ite (fun _ => rfl) (fun _ => ?_)
  refine wc_ite (fun _ => rfl) (fun _ => ?_)
  refine wc_ite (fun _ => rfl) (fun _ => ?_)
  refine wc_ite (fun _ => rfl) (fun _ => ?_)
  refine wc_ite (fun _ => rfl) (fun _ => ?_)
  refine wc_ite (fun _ => rfl) (fun _ => ?_)
  refine wc_ite (fun _ => rfl) (fun _ => ?_)
  refine wc_ite (fun _ => rfl) (fun _ => ?_)
  refine wc_ite (fun _ => rfl) (fun _ => ?_)
  refine wc_ite (fun _ => False.elim (by omega)) (fun _ => ?_)
  refine wc_ite (fun _ => rfl) (fun _ => ?_)
  refine wc_ite (fun _ => rfl) (fun _ => ?_)
  refine wc_ite (fun _ => rfl) (fun _ => ?_)
  refine wc_ite (fun _ => rfl) (fun _ => ?_)
  refine wc_ite (fun _ => rfl) (fun _ => ?_)
  refine wc_ite (fun _ => rfl) (fun _ => ?_)
  rfl
theorem wc_o_WROTE {Γ : wc_G} {σ μ : wc_St} {j q : Nat} {x : Int32} (h : q ≠ 85) : wc_cell Γ σ (wc_st μ 48 0 j x) q = wc_cell Γ σ μ q := by
  unfold wc_cell
  refine wc_ite (fun _ => rfl) (fun _ => ?_)
  refine wc_ite (fun _ => rfl) (fun _ => ?_)
  refine wc_ite (fun _ => rfl) (fun _ => ?_)
  refine wc_ite (fun _ => rfl) (fun _ => ?_)
  refine wc_ite (fun _ => rfl) (fun _ => ?_)
  refine wc_ite (fun _ => rfl) (fun _ => ?_)
  refine wc_ite (fun _ => rfl) (fun _ => ?_)
  refine wc_ite (fun _ => rfl) (fun _ => ?_)
  refine wc_ite (fun _ => rfl) (fun _ => ?_)
  refine wc_ite (fun _ => rfl) (fun _ => ?_)
  refine wc_ite (fun _ => rfl) (fun _ => ?_)
  refine wc_ite (fun _ => rfl) (fun _ => ?_)
  refine wc_ite (fun _ => rfl) (fun _ => ?_)
  refine wc_ite (fun _ => rfl) (fun _ => ?_)
  refine wc_ite (fun _ => rfl) (fun _ => ?_)
  refine wc_ite (fun _ => rfl) (fun _ => ?_)
  refine wc_ite (fun _ => rfl) (fun _ => ?_)
  refine wc_ite (fun _ => rfl) (fun _ => ?_)
  refine wc_ite (fun _ => rfl) (fun _ => ?_)
  refine wc_ite (fun _ => rfl) (fun _ => ?_)
  refine wc_ite (fun _ => rfl) (fun _ => ?_)
  refine wc_ite (fun _ => rfl) (fun _ => ?_)
  refine wc_ite (fun _ => rfl) (fun _ => ?_)
  refine wc_ite (fun _ => rfl) (fun _ => ?_)
  refine wc_ite (fun _ => rfl) (fun _ => ?_)
  refine wc_ite (fun _ => rfl) (fun _ => ?_)
  refine wc_ite (fun _ => rfl) (fun _ => ?_)
  refine wc_ite (fun _ => rfl) (fun _ => ?_)
  refine wc_ite (fun _ => rfl) (fun _ => ?_)
  refine wc_ite (fun _ => False.elim (by omega)) (fun _ => ?_)
  refine wc_ite (fun _ => rfl) (fun _ => ?_)
  refine wc_ite (fun _ => rfl) (fun _ => ?_)
  refine wc_ite (fun _ => rfl) (fun _ => ?_)
  refine wc_ite (fun _ => rfl) (fun _ => ?_)
  refine wc_ite (fun _ => rfl) (fun _ => ?_)
  rfl
theorem wc_o_RVAL {Γ : wc_G} {σ μ : wc_St} {j q : Nat} {x : Int32} (h : q ≠ 86) : wc_cell Γ σ (wc_st μ 49 0 j x) q = wc_cell Γ σ μ q := by
  unfold wc_cell
  refine wc_ite (fun _ => rfl) (fun _ => ?_)
  refine wc_ite (fun _ => rfl) (fun _ => ?_)
  refine wc_ite (fun _ => rfl) (fun _ => ?_)
  refine wc_ite (fun _ => rfl) (fun _ => ?_)
  refine wc_ite (fun _ => rfl) (fun _ => ?_)
  refine wc_ite (fun _ => rfl) (fun _ => ?_)
  refine wc_ite (fun _ => rfl) (fun _ => ?_)
  refine wc_ite (fun _ => rfl) (fun _ => ?_)
  refine wc_ite (fun _ => rfl) (fun _ => ?_)
  refine wc_ite (fun _ => rfl) (fun _ => ?_)
  refine wc_ite (fun _ => rfl) (fun _ => ?_)
  refine wc_ite (fun _ => rfl) (fun _ => ?_)
  refine wc_ite (fun _ => rfl) (fun _ => ?_)
  refine wc_ite (fun _ => rfl) (fun _ => ?_)
  refine wc_ite (fun _ => rfl) (fun _ => ?_)
  refine wc_ite (fun _ => rfl) (fun _ => ?_)
  refine wc_ite (fun _ => rfl) (fun _ => ?_)
  refine wc_ite (fun _ => rfl) (fun _ => ?_)
  refine wc_ite (fun _ => rfl) (fun _ => ?_)
  refine wc_ite (fun _ => rfl) (fun _ => ?_)
  refine wc_ite (fun _ => rfl) (fun _ => ?_)
  refine wc_ite (fun _ => rfl) (fun _ => ?_)
  refine wc_ite (fun _ => rfl) (fun _ => ?_)
  refine wc_ite (fun _ => rfl) (fun _ => ?_)
  refine wc_ite (fun _ => rfl) (fun _ => ?_)
  refine wc_ite (fun _ => rfl) (fun _ => ?_)
  refine wc_ite (fun _ => rfl) (fun _ => ?_)
  refine wc_ite (fun _ => rfl) (fun _ => ?_)
  refine wc_ite (fun _ => rfl) (fun _ => ?_)
  refine wc_ite (fun _ => rfl) (fun _ => ?_)
  refine wc_ite (fun _ => False.elim (by omega)) (fun _ => ?_)
  refine wc_ite (fun _ => rfl) (fun _ => ?_)
  refine wc_ite (fun _ => rfl) (fun _ => ?_)
  refine wc_ite (fun _ => rfl) (fun _ => ?_)
  refine wc_ite (fun _ => rfl) (fun _ => ?_)
  rfl
theorem wc_o_MARKED {Γ : wc_G} {σ μ : wc_St} {j q : Nat} {x : Int32} (h : q ≠ 87) : wc_cell Γ σ (wc_st μ 50 0 j x) q = wc_cell Γ σ μ q := by
  unfold wc_cell
  refine wc_ite (fun _ => rfl) (fun _ => ?_)
  refine wc_ite (fun _ => rfl) (fun _ => ?_)
  refine wc_ite (fun _ => rfl) (fun _ => ?_)
  refine wc_ite (fun _ => rfl) (fun _ => ?_)
  refine wc_ite (fun _ => rfl) (fun _ => ?_)
  refine wc_ite (fun _ => rfl) (fun _ => ?_)
  refine wc_ite (fun _ => rfl) (fun _ => ?_)
  refine wc_ite (fun _ => rfl) (fun _ => ?_)
  refine wc_ite (fun _ => rfl) (fun _ => ?_)
  refine wc_ite (fun _ => rfl) (fun _ => ?_)
  refine wc_ite (fun _ => rfl) (fun _ => ?_)
  refine wc_ite (fun _ => rfl) (fun _ => ?_)
  refine wc_ite (fun _ => rfl) (fun _ => ?_)
  refine wc_ite (fun _ => rfl) (fun _ => ?_)
  refine wc_ite (fun _ => rfl) (fun _ => ?_)
  refine wc_ite (fun _ => rfl) (fun _ => ?_)
  refine wc_ite (fun _ => rfl) (fun _ => ?_)
  refine wc_ite (fun _ => rfl) (fun _ => ?_)
  refine wc_ite (fun _ => rfl) (fun _ => ?_)
  refine wc_ite (fun _ => rfl) (fun _ => ?_)
  refine wc_ite (fun _ => rfl) (fun _ => ?_)
  refine wc_ite (fun _ => rfl) (fun _ => ?_)
  refine wc_ite (fun _ => rfl) (fun _ => ?_)
  refine wc_ite (fun _ => rfl) (fun _ => ?_)
  refine wc_ite (fun _ => rfl) (fun _ => ?_)
  refine wc_ite (fun _ => rfl) (fun _ => ?_)
  refine wc_ite (fun _ => rfl) (fun _ => ?_)
  refine wc_ite (fun _ => rfl) (fun _ => ?_)
  refine wc_ite (fun _ => rfl) (fun _ => ?_)
  refine wc_ite (fun _ => rfl) (fun _ => ?_)
  refine wc_ite (fun _ => rfl) (fun _ => ?_)
  refine wc_ite (fun _ => False.elim (by omega)) (fun _ => ?_)
  refine wc_ite (fun _ => rfl) (fun _ => ?_)
  refine wc_ite (fun _ => rfl) (fun _ => ?_)
  refine wc_ite (fun _ => rfl) (fun _ => ?_)
  rfl
theorem wc_o_MARK {Γ : wc_G} {σ μ : wc_St} {j q : Nat} {x : Int32} (h : q ≠ 88) : wc_cell Γ σ (wc_st μ 51 0 j x) q = wc_cell Γ σ μ q := by
  unfold wc_cell
  refine wc_ite (fun _ => rfl) (fun _ => ?_)
  refine wc_ite (fun _ => rfl) (fun _ => ?_)
  refine wc_ite (fun _ => rfl) (fun _ => ?_)
  refine wc_ite (fun _ => rfl) (fun _ => ?_)
  refine wc_ite (fun _ => rfl) (fun _ => ?_)
  refine wc_ite (fun _ => rfl) (fun _ => ?_)
  refine wc_ite (fun _ => rfl) (fun _ => ?_)
  refine wc_ite (fun _ => rfl) (fun _ => ?_)
  refine wc_ite (fun _ => rfl) (fun _ => ?_)
  refine wc_ite (fun _ => rfl) (fun _ => ?_)
  refine wc_ite (fun _ => rfl) (fun _ => ?_)
  refine wc_ite (fun _ => rfl) (fun _ => ?_)
  refine wc_ite (fun _ => rfl) (fun _ => ?_)
  refine wc_ite (fun _ => rfl) (fun _ => ?_)
  refine wc_ite (fun _ => rfl) (fun _ => ?_)
  refine wc_ite (fun _ => rfl) (fun _ => ?_)
  refine wc_ite (fun _ => rfl) (fun _ => ?_)
  refine wc_ite (fun _ => rfl) (fun _ => ?_)
  refine wc_ite (fun _ => rfl) (fun _ => ?_)
  refine wc_ite (fun _ => rfl) (fun _ => ?_)
  refine wc_ite (fun _ => rfl) (fun _ => ?_)
  refine wc_ite (fun _ => rfl) (fun _ => ?_)
  refine wc_ite (fun _ => rfl) (fun _ => ?_)
  refine wc_ite (fun _ => rfl) (fun _ => ?_)
  refine wc_ite (fun _ => rfl) (fun _ => ?_)
  refine wc_ite (fun _ => rfl) (fun _ => ?_)
  refine wc_ite (fun _ => rfl) (fun _ => ?_)
  refine wc_ite (fun _ => rfl) (fun _ => ?_)
  refine wc_ite (fun _ => rfl) (fun _ => ?_)
  refine wc_ite (fun _ => rfl) (fun _ => ?_)
  refine wc_ite (fun _ => rfl) (fun _ => ?_)
  refine wc_ite (fun _ => rfl) (fun _ => ?_)
  refine wc_ite (fun _ => False.elim (by omega)) (fun _ => ?_)
  refine wc_ite (fun _ => rfl) (fun _ => ?_)
  refine wc_ite (fun _ => rfl) (fun _ => ?_)
  rfl
theorem wc_o_ARRV {Γ : wc_G} {σ μ : wc_St} {j q : Nat} {x : Int32} (h : q ≠ 89) : wc_cell Γ σ (wc_st μ 53 0 j x) q = wc_cell Γ σ μ q := by
  unfold wc_cell
  refine wc_ite (fun _ => rfl) (fun _ => ?_)
  refine wc_ite (fun _ => rfl) (fun _ => ?_)
  refine wc_ite (fun _ => rfl) (fun _ => ?_)
  refine wc_ite (fun _ => rfl) (fun _ => ?_)
  refine wc_ite (fun _ => rfl) (fun _ => ?_)
  refine wc_ite (fun _ => rfl) (fun _ => ?_)
  refine wc_ite (fun _ => rfl) (fun _ => ?_)
  refine wc_ite (fun _ => rfl) (fun _ => ?_)
  refine wc_ite (fun _ => rfl) (fun _ => ?_)
  refine wc_ite (fun _ => rfl) (fun _ => ?_)
  refine wc_ite (fun _ => rfl) (fun _ => ?_)
  refine wc_ite (fun _ => rfl) (fun _ => ?_)
  refine wc_ite (fun _ => rfl) (fun _ => ?_)
  refine wc_ite (fun _ => rfl) (fun _ => ?_)
  refine wc_ite (fun _ => rfl) (fun _ => ?_)
  refine wc_ite (fun _ => rfl) (fun _ => ?_)
  refine wc_ite (fun _ => rfl) (fun _ => ?_)
  refine wc_ite (fun _ => rfl) (fun _ => ?_)
  refine wc_ite (fun _ => rfl) (fun _ => ?_)
  refine wc_ite (fun _ => rfl) (fun _ => ?_)
  refine wc_ite (fun _ => rfl) (fun _ => ?_)
  refine wc_ite (fun _ => rfl) (fun _ => ?_)
  refine wc_ite (fun _ => rfl) (fun _ => ?_)
  refine wc_ite (fun _ => rfl) (fun _ => ?_)
  refine wc_ite (fun _ => rfl) (fun _ => ?_)
  refine wc_ite (fun _ => rfl) (fun _ => ?_)
  refine wc_ite (fun _ => rfl) (fun _ => ?_)
  refine wc_ite (fun _ => rfl) (fun _ => ?_)
  refine wc_ite (fun _ => rfl) (fun _ => ?_)
  refine wc_ite (fun _ => rfl) (fun _ => ?_)
  refine wc_ite (fun _ => rfl) (fun _ => ?_)
  refine wc_ite (fun _ => rfl) (fun _ => ?_)
  refine wc_ite (fun _ => rfl) (fun _ => ?_)
  refine wc_ite (fun _ => False.elim (by omega)) (fun _ => ?_)
  refine wc_ite (fun _ => rfl) (fun _ => ?_)
  rfl
theorem wc_o_NUM {Γ : wc_G} {σ μ : wc_St} {j q : Nat} {x : Int32} (h : q ≠ 90) : wc_cell Γ σ (wc_st μ 54 0 j x) q = wc_cell Γ σ μ q := by
  unfold wc_cell
  refine wc_ite (fun _ => rfl) (fun _ => ?_)
  refine wc_ite (fun _ => rfl) (fun _ => ?_)
  refine wc_ite (fun _ => rfl) (fun _ => ?_)
  refine wc_ite (fun _ => rfl) (fun _ => ?_)
  refine wc_ite (fun _ => rfl) (fun _ => ?_)
  refine wc_ite (fun _ => rfl) (fun _ => ?_)
  refine wc_ite (fun _ => rfl) (fun _ => ?_)
  refine wc_ite (fun _ => rfl) (fun _ => ?_)
  refine wc_ite (fun _ => rfl) (fun _ => ?_)
  refine wc_ite (fun _ => rfl) (fun _ => ?_)
  refine wc_ite (fun _ => rfl) (fun _ => ?_)
  refine wc_ite (fun _ => rfl) (fun _ => ?_)
  refine wc_ite (fun _ => rfl) (fun _ => ?_)
  refine wc_ite (fun _ => rfl) (fun _ => ?_)
  refine wc_ite (fun _ => rfl) (fun _ => ?_)
  refine wc_ite (fun _ => rfl) (fun _ => ?_)
  refine wc_ite (fun _ => rfl) (fun _ => ?_)
  refine wc_ite (fun _ => rfl) (fun _ => ?_)
  refine wc_ite (fun _ => rfl) (fun _ => ?_)
  refine wc_ite (fun _ => rfl) (fun _ => ?_)
  refine wc_ite (fun _ => rfl) (fun _ => ?_)
  refine wc_ite (fun _ => rfl) (fun _ => ?_)
  refine wc_ite (fun _ => rfl) (fun _ => ?_)
  refine wc_ite (fun _ => rfl) (fun _ => ?_)
  refine wc_ite (fun _ => rfl) (fun _ => ?_)
  refine wc_ite (fun _ => rfl) (fun _ => ?_)
  refine wc_ite (fun _ => rfl) (fun _ => ?_)
  refine wc_ite (fun _ => rfl) (fun _ => ?_)
  refine wc_ite (fun _ => rfl) (fun _ => ?_)
  refine wc_ite (fun _ => rfl) (fun _ => ?_)
  refine wc_ite (fun _ => rfl) (fun _ => ?_)
  refine wc_ite (fun _ => rfl) (fun _ => ?_)
  refine wc_ite (fun _ => rfl) (fun _ => ?_)
  refine wc_ite (fun _ => rfl) (fun _ => ?_)
  refine wc_ite (fun _ => False.elim (by omega)) (fun _ => ?_)
  rfl
theorem wc_put_WC_time {Γ : wc_G} {σ μ : wc_St} {x : Int32} : wc_cell Γ (wc_st σ 23 0 0 x) μ (0) = .inr (0, ([.int (σ 22 0 0), .ref (Γ.2.2 1), .ref (Γ.2.2 2), .ref (Γ.2.2 3), .ref (Γ.2.2 4), .int (σ 23 0 0), .int (σ 24 0 0), .int (σ 25 0 0), .int (σ 26 0 0)] : List Value).set 5 (.int x)) := by
  rw [wc_c_WC]
  simp [wc_st]
theorem wc_put_WC_begun {Γ : wc_G} {σ μ : wc_St} {x : Int32} : wc_cell Γ (wc_st σ 24 0 0 x) μ (0) = .inr (0, ([.int (σ 22 0 0), .ref (Γ.2.2 1), .ref (Γ.2.2 2), .ref (Γ.2.2 3), .ref (Γ.2.2 4), .int (σ 23 0 0), .int (σ 24 0 0), .int (σ 25 0 0), .int (σ 26 0 0)] : List Value).set 6 (.int x)) := by
  rw [wc_c_WC]
  simp [wc_st]
theorem wc_put_WC_sent {Γ : wc_G} {σ μ : wc_St} {x : Int32} : wc_cell Γ (wc_st σ 25 0 0 x) μ (0) = .inr (0, ([.int (σ 22 0 0), .ref (Γ.2.2 1), .ref (Γ.2.2 2), .ref (Γ.2.2 3), .ref (Γ.2.2 4), .int (σ 23 0 0), .int (σ 24 0 0), .int (σ 25 0 0), .int (σ 26 0 0)] : List Value).set 7 (.int x)) := by
  rw [wc_c_WC]
  simp [wc_st]
theorem wc_put_WC_underWay {Γ : wc_G} {σ μ : wc_St} {x : Int32} : wc_cell Γ (wc_st σ 26 0 0 x) μ (0) = .inr (0, ([.int (σ 22 0 0), .ref (Γ.2.2 1), .ref (Γ.2.2 2), .ref (Γ.2.2 3), .ref (Γ.2.2 4), .int (σ 23 0 0), .int (σ 24 0 0), .int (σ 25 0 0), .int (σ 26 0 0)] : List Value).set 8 (.int x)) := by
  rw [wc_c_WC]
  simp [wc_st]
theorem wc_put_Site_before {Γ : wc_G} {σ μ : wc_St} {i : Nat} (h : i < 3) {x : Int32} : wc_cell Γ (wc_st σ 0 i 0 x) μ (5 + i) = .inr (1, ([.int (σ 0 i 0), .int (σ 1 i 0), .int (σ 2 i 0), .int (σ 3 i 0), .int (σ 4 i 0)] : List Value).set 0 (.int x)) := by
  rw [wc_c_Site h]
  simp [wc_st]
theorem wc_put_Site_after {Γ : wc_G} {σ μ : wc_St} {i : Nat} (h : i < 3) {x : Int32} : wc_cell Γ (wc_st σ 1 i 0 x) μ (5 + i) = .inr (1, ([.int (σ 0 i 0), .int (σ 1 i 0), .int (σ 2 i 0), .int (σ 3 i 0), .int (σ 4 i 0)] : List Value).set 1 (.int x)) := by
  rw [wc_c_Site h]
  simp [wc_st]
theorem wc_put_Site_delay {Γ : wc_G} {σ μ : wc_St} {i : Nat} (h : i < 3) {x : Int32} : wc_cell Γ (wc_st σ 2 i 0 x) μ (5 + i) = .inr (1, ([.int (σ 0 i 0), .int (σ 1 i 0), .int (σ 2 i 0), .int (σ 3 i 0), .int (σ 4 i 0)] : List Value).set 2 (.int x)) := by
  rw [wc_c_Site h]
  simp [wc_st]
theorem wc_put_Site_isUp {Γ : wc_G} {σ μ : wc_St} {i : Nat} (h : i < 3) {x : Int32} : wc_cell Γ (wc_st σ 3 i 0 x) μ (5 + i) = .inr (1, ([.int (σ 0 i 0), .int (σ 1 i 0), .int (σ 2 i 0), .int (σ 3 i 0), .int (σ 4 i 0)] : List Value).set 3 (.int x)) := by
  rw [wc_c_Site h]
  simp [wc_st]
theorem wc_put_Site_bound {Γ : wc_G} {σ μ : wc_St} {i : Nat} (h : i < 3) {x : Int32} : wc_cell Γ (wc_st σ 4 i 0 x) μ (5 + i) = .inr (1, ([.int (σ 0 i 0), .int (σ 1 i 0), .int (σ 2 i 0), .int (σ 3 i 0), .int (σ 4 i 0)] : List Value).set 4 (.int x)) := by
  rw [wc_c_Site h]
  simp [wc_st]
theorem wc_put_Key_count {Γ : wc_G} {σ μ : wc_St} {i : Nat} (h : i < 9) {x : Int32} : wc_cell Γ (wc_st σ 5 i 0 x) μ (8 + i) = .inr (2, ([.ref (Γ.2.2 (17 + i)), .ref (Γ.2.2 (26 + i)), .int (σ 5 i 0)] : List Value).set 2 (.int x)) := by
  rw [wc_c_Key h]
  simp [wc_st]
theorem wc_put_Tx_state {Γ : wc_G} {σ μ : wc_St} {i : Nat} (h : i < 5) {x : Int32} : wc_cell Γ (wc_st σ 8 i 0 x) μ (35 + i) = .inr (3, ([.int (σ 8 i 0), .int (σ 9 i 0), .int (σ 10 i 0), .int (σ 11 i 0), .int (σ 12 i 0), .int (σ 13 i 0), .int (σ 14 i 0), .ref (Γ.2.2 (40 + i)), .ref (Γ.2.2 (45 + i)), .ref (Γ.2.2 (50 + i))] : List Value).set 0 (.int x)) := by
  rw [wc_c_Tx h]
  simp [wc_st]
theorem wc_put_Tx_birth {Γ : wc_G} {σ μ : wc_St} {i : Nat} (h : i < 5) {x : Int32} : wc_cell Γ (wc_st σ 9 i 0 x) μ (35 + i) = .inr (3, ([.int (σ 8 i 0), .int (σ 9 i 0), .int (σ 10 i 0), .int (σ 11 i 0), .int (σ 12 i 0), .int (σ 13 i 0), .int (σ 14 i 0), .ref (Γ.2.2 (40 + i)), .ref (Γ.2.2 (45 + i)), .ref (Γ.2.2 (50 + i))] : List Value).set 1 (.int x)) := by
  rw [wc_c_Tx h]
  simp [wc_st]
theorem wc_put_Tx_coordinator {Γ : wc_G} {σ μ : wc_St} {i : Nat} (h : i < 5) {x : Int32} : wc_cell Γ (wc_st σ 10 i 0 x) μ (35 + i) = .inr (3, ([.int (σ 8 i 0), .int (σ 9 i 0), .int (σ 10 i 0), .int (σ 11 i 0), .int (σ 12 i 0), .int (σ 13 i 0), .int (σ 14 i 0), .ref (Γ.2.2 (40 + i)), .ref (Γ.2.2 (45 + i)), .ref (Γ.2.2 (50 + i))] : List Value).set 2 (.int x)) := by
  rw [wc_c_Tx h]
  simp [wc_st]
theorem wc_put_Tx_floor {Γ : wc_G} {σ μ : wc_St} {i : Nat} (h : i < 5) {x : Int32} : wc_cell Γ (wc_st σ 11 i 0 x) μ (35 + i) = .inr (3, ([.int (σ 8 i 0), .int (σ 9 i 0), .int (σ 10 i 0), .int (σ 11 i 0), .int (σ 12 i 0), .int (σ 13 i 0), .int (σ 14 i 0), .ref (Γ.2.2 (40 + i)), .ref (Γ.2.2 (45 + i)), .ref (Γ.2.2 (50 + i))] : List Value).set 3 (.int x)) := by
  rw [wc_c_Tx h]
  simp [wc_st]
theorem wc_put_Tx_awaited {Γ : wc_G} {σ μ : wc_St} {i : Nat} (h : i < 5) {x : Int32} : wc_cell Γ (wc_st σ 12 i 0 x) μ (35 + i) = .inr (3, ([.int (σ 8 i 0), .int (σ 9 i 0), .int (σ 10 i 0), .int (σ 11 i 0), .int (σ 12 i 0), .int (σ 13 i 0), .int (σ 14 i 0), .ref (Γ.2.2 (40 + i)), .ref (Γ.2.2 (45 + i)), .ref (Γ.2.2 (50 + i))] : List Value).set 4 (.int x)) := by
  rw [wc_c_Tx h]
  simp [wc_st]
theorem wc_put_Tx_stamp {Γ : wc_G} {σ μ : wc_St} {i : Nat} (h : i < 5) {x : Int32} : wc_cell Γ (wc_st σ 13 i 0 x) μ (35 + i) = .inr (3, ([.int (σ 8 i 0), .int (σ 9 i 0), .int (σ 10 i 0), .int (σ 11 i 0), .int (σ 12 i 0), .int (σ 13 i 0), .int (σ 14 i 0), .ref (Γ.2.2 (40 + i)), .ref (Γ.2.2 (45 + i)), .ref (Γ.2.2 (50 + i))] : List Value).set 5 (.int x)) := by
  rw [wc_c_Tx h]
  simp [wc_st]
theorem wc_put_Tx_end {Γ : wc_G} {σ μ : wc_St} {i : Nat} (h : i < 5) {x : Int32} : wc_cell Γ (wc_st σ 14 i 0 x) μ (35 + i) = .inr (3, ([.int (σ 8 i 0), .int (σ 9 i 0), .int (σ 10 i 0), .int (σ 11 i 0), .int (σ 12 i 0), .int (σ 13 i 0), .int (σ 14 i 0), .ref (Γ.2.2 (40 + i)), .ref (Γ.2.2 (45 + i)), .ref (Γ.2.2 (50 + i))] : List Value).set 6 (.int x)) := by
  rw [wc_c_Tx h]
  simp [wc_st]
theorem wc_put_Msg_kind {Γ : wc_G} {σ μ : wc_St} {i : Nat} (h : i < 15) {x : Int32} : wc_cell Γ (wc_st σ 18 i 0 x) μ (55 + i) = .inr (4, ([.int (nI (i / 3)), .int (nI (i % 3)), .int (σ 18 i 0), .int (σ 19 i 0), .int (σ 20 i 0), .int (σ 21 i 0)] : List Value).set 2 (.int x)) := by
  rw [wc_c_Msg h]
  simp [wc_st]
theorem wc_put_Msg_receiver {Γ : wc_G} {σ μ : wc_St} {i : Nat} (h : i < 15) {x : Int32} : wc_cell Γ (wc_st σ 19 i 0 x) μ (55 + i) = .inr (4, ([.int (nI (i / 3)), .int (nI (i % 3)), .int (σ 18 i 0), .int (σ 19 i 0), .int (σ 20 i 0), .int (σ 21 i 0)] : List Value).set 3 (.int x)) := by
  rw [wc_c_Msg h]
  simp [wc_st]
theorem wc_put_Msg_arrival {Γ : wc_G} {σ μ : wc_St} {i : Nat} (h : i < 15) {x : Int32} : wc_cell Γ (wc_st σ 20 i 0 x) μ (55 + i) = .inr (4, ([.int (nI (i / 3)), .int (nI (i % 3)), .int (σ 18 i 0), .int (σ 19 i 0), .int (σ 20 i 0), .int (σ 21 i 0)] : List Value).set 4 (.int x)) := by
  rw [wc_c_Msg h]
  simp [wc_st]
theorem wc_put_Msg_order {Γ : wc_G} {σ μ : wc_St} {i : Nat} (h : i < 15) {x : Int32} : wc_cell Γ (wc_st σ 21 i 0 x) μ (55 + i) = .inr (4, ([.int (nI (i / 3)), .int (nI (i % 3)), .int (σ 18 i 0), .int (σ 19 i 0), .int (σ 20 i 0), .int (σ 21 i 0)] : List Value).set 5 (.int x)) := by
  rw [wc_c_Msg h]
  simp [wc_st]
theorem wc_put_Model_e {Γ : wc_G} {σ μ : wc_St} {x : Int32} : wc_cell Γ σ (wc_st μ 30 0 0 x) (70) = .inr (5, ([.int (μ 30 0 0), .int (μ 31 0 0), .ref (Γ.2.2 71), .ref (Γ.2.2 72), .ref (Γ.2.2 73), .ref (Γ.2.2 74), .ref (Γ.2.2 75), .int (μ 37 0 0), .ref (Γ.2.2 76), .ref (Γ.2.2 77), .ref (Γ.2.2 78), .int (μ 41 0 0), .ref (Γ.2.2 79), .ref (Γ.2.2 80), .ref (Γ.2.2 81), .ref (Γ.2.2 82), .ref (Γ.2.2 83), .ref (Γ.2.2 84), .ref (Γ.2.2 85), .ref (Γ.2.2 86), .ref (Γ.2.2 87), .ref (Γ.2.2 88), .int (μ 52 0 0), .ref (Γ.2.2 89), .ref (Γ.2.2 90)] : List Value).set 0 (.int x)) := by
  rw [wc_c_Model]
  simp [wc_st]
theorem wc_put_Model_now {Γ : wc_G} {σ μ : wc_St} {x : Int32} : wc_cell Γ σ (wc_st μ 31 0 0 x) (70) = .inr (5, ([.int (μ 30 0 0), .int (μ 31 0 0), .ref (Γ.2.2 71), .ref (Γ.2.2 72), .ref (Γ.2.2 73), .ref (Γ.2.2 74), .ref (Γ.2.2 75), .int (μ 37 0 0), .ref (Γ.2.2 76), .ref (Γ.2.2 77), .ref (Γ.2.2 78), .int (μ 41 0 0), .ref (Γ.2.2 79), .ref (Γ.2.2 80), .ref (Γ.2.2 81), .ref (Γ.2.2 82), .ref (Γ.2.2 83), .ref (Γ.2.2 84), .ref (Γ.2.2 85), .ref (Γ.2.2 86), .ref (Γ.2.2 87), .ref (Γ.2.2 88), .int (μ 52 0 0), .ref (Γ.2.2 89), .ref (Γ.2.2 90)] : List Value).set 1 (.int x)) := by
  rw [wc_c_Model]
  simp [wc_st]
theorem wc_put_Model_versions {Γ : wc_G} {σ μ : wc_St} {x : Int32} : wc_cell Γ σ (wc_st μ 37 0 0 x) (70) = .inr (5, ([.int (μ 30 0 0), .int (μ 31 0 0), .ref (Γ.2.2 71), .ref (Γ.2.2 72), .ref (Γ.2.2 73), .ref (Γ.2.2 74), .ref (Γ.2.2 75), .int (μ 37 0 0), .ref (Γ.2.2 76), .ref (Γ.2.2 77), .ref (Γ.2.2 78), .int (μ 41 0 0), .ref (Γ.2.2 79), .ref (Γ.2.2 80), .ref (Γ.2.2 81), .ref (Γ.2.2 82), .ref (Γ.2.2 83), .ref (Γ.2.2 84), .ref (Γ.2.2 85), .ref (Γ.2.2 86), .ref (Γ.2.2 87), .ref (Γ.2.2 88), .int (μ 52 0 0), .ref (Γ.2.2 89), .ref (Γ.2.2 90)] : List Value).set 7 (.int x)) := by
  rw [wc_c_Model]
  simp [wc_st]
theorem wc_put_Model_begun {Γ : wc_G} {σ μ : wc_St} {x : Int32} : wc_cell Γ σ (wc_st μ 41 0 0 x) (70) = .inr (5, ([.int (μ 30 0 0), .int (μ 31 0 0), .ref (Γ.2.2 71), .ref (Γ.2.2 72), .ref (Γ.2.2 73), .ref (Γ.2.2 74), .ref (Γ.2.2 75), .int (μ 37 0 0), .ref (Γ.2.2 76), .ref (Γ.2.2 77), .ref (Γ.2.2 78), .int (μ 41 0 0), .ref (Γ.2.2 79), .ref (Γ.2.2 80), .ref (Γ.2.2 81), .ref (Γ.2.2 82), .ref (Γ.2.2 83), .ref (Γ.2.2 84), .ref (Γ.2.2 85), .ref (Γ.2.2 86), .ref (Γ.2.2 87), .ref (Γ.2.2 88), .int (μ 52 0 0), .ref (Γ.2.2 89), .ref (Γ.2.2 90)] : List Value).set 11 (.int x)) := by
  rw [wc_c_Model]
  simp [wc_st]
theorem wc_put_Model_sent {Γ : wc_G} {σ μ : wc_St} {x : Int32} : wc_cell Γ σ (wc_st μ 52 0 0 x) (70) = .inr (5, ([.int (μ 30 0 0), .int (μ 31 0 0), .ref (Γ.2.2 71), .ref (Γ.2.2 72), .ref (Γ.2.2 73), .ref (Γ.2.2 74), .ref (Γ.2.2 75), .int (μ 37 0 0), .ref (Γ.2.2 76), .ref (Γ.2.2 77), .ref (Γ.2.2 78), .int (μ 41 0 0), .ref (Γ.2.2 79), .ref (Γ.2.2 80), .ref (Γ.2.2 81), .ref (Γ.2.2 82), .ref (Γ.2.2 83), .ref (Γ.2.2 84), .ref (Γ.2.2 85), .ref (Γ.2.2 86), .ref (Γ.2.2 87), .ref (Γ.2.2 88), .int (μ 52 0 0), .ref (Γ.2.2 89), .ref (Γ.2.2 90)] : List Value).set 22 (.int x)) := by
  rw [wc_c_Model]
  simp [wc_st]
end
section
def wc_mx (x y : Int32) : Int32 := if x < y then y else x
def wc_mn (x y : Int32) : Int32 := if y < x then y else x
theorem wc_inc1 (a : Nat) : nI a + Int32.ofInt 1 = nI (a + 1) := nI_1 a
theorem wc_inc3 (a : Nat) : nI a + Int32.ofInt 3 = nI (a + 3) := nI_add a 3
theorem wc_noge {a b : Nat} (h : a < b) (ha : a < 2 ^ 31) (hb : b < 2 ^ 31) : ¬ nI b ≤ nI a := by rw [nI_leI hb ha]; omega
theorem wc_yesge {a b : Nat} (h : b ≤ a) (ha : a < 2 ^ 31) (hb : b < 2 ^ 31) : nI b ≤ nI a := by rw [nI_leI hb ha]; omega
theorem wc_nolt {a b : Nat} (h : b ≤ a) (ha : a < 2 ^ 31) (hb : b < 2 ^ 31) : ¬ nI a < nI b := by rw [nI_ltI ha hb]; omega
theorem wc_yeslt {a b : Nat} (h : a < b) (ha : a < 2 ^ 31) (hb : b < 2 ^ 31) : nI a < nI b := by rw [nI_ltI ha hb]; omega
theorem wc_nogt {a b : Nat} (h : a ≤ b) (ha : a < 2 ^ 31) (hb : b < 2 ^ 31) : ¬ nI b < nI a := by rw [nI_ltI hb ha]; omega
theorem wc_yesgt {a b : Nat} (h : b < a) (ha : a < 2 ^ 31) (hb : b < 2 ^ 31) : nI b < nI a := by rw [nI_ltI hb ha]; omega
theorem wc_nole {a b : Nat} (h : b < a) (ha : a < 2 ^ 31) (hb : b < 2 ^ 31) : ¬ nI a ≤ nI b := by rw [nI_leI ha hb]; omega
theorem wc_yesle {a b : Nat} (h : a ≤ b) (ha : a < 2 ^ 31) (hb : b < 2 ^ 31) : nI a ≤ nI b := by rw [nI_leI ha hb]; omega
theorem wc_noeq {a b : Nat} (h : a ≠ b) (ha : a < 2 ^ 31) (hb : b < 2 ^ 31) : ¬ nI a = nI b := by rw [nI_eq ha hb]; exact h
theorem wc_yeseq {a b : Nat} (h : a = b) (_ : a < 2 ^ 31) (_ : b < 2 ^ 31) : nI a = nI b := by rw [h]
theorem wc_none {a b : Nat} (h : a = b) (_ : a < 2 ^ 31) (_ : b < 2 ^ 31) : ¬ ¬ nI a = nI b := fun q => q (by rw [h])
theorem wc_yesne {a b : Nat} (h : a ≠ b) (ha : a < 2 ^ 31) (hb : b < 2 ^ 31) : ¬ nI a = nI b := by rw [nI_eq ha hb]; exact h
theorem wc_nolt0 {a : Nat} (ha : a < 2 ^ 31) (_ : 0 < 1) : ¬ nI a < 0 := nI_pos ha
theorem wc_yesge0 {a : Nat} (ha : a < 2 ^ 31) (_ : 0 < 1) : 0 ≤ nI a := nI_pos' ha
section WCK
variable {p : Program} {l : Launch} {e : Env} {R : Room} {s : State} {m : MethodId} {args : Array Value} {below : List Frame} {meth : Method} {c : Code} {cells slots : Nat} {Q : State → Prop} {nL : Nat} {Γ : wc_G} {A : Nat → Prop}
variable {cc : ByteArray} {own : String} {pc : Nat} {vs : List (Nat × Value)} {st : List Value} {σ μ : wc_St}
/-- the machine at pc with the locals vs, the stack st, in a heap that holds the system in the state σ, comes to Q -/
def wc_K (p : Program) (l : Launch) (e : Env) (R : Room) (s : State) (m : MethodId) (args : Array Value) (below : List Frame) (meth : Method) (c : Code) (nL : Nat) (Γ : wc_G) (A : Nat → Prop) (Q : State → Prop) (cells slots pc : Nat) (vs : List (Nat × Value)) (st : List Value) (σ μ : wc_St) : Prop :=
  ∀ (ls : Array Slot) (H : Heap) (locs : List Loc), lv_has ls nL vs → va_P Γ.1 vwCl (wc_wl Γ σ μ) H → va_D A (wc_wl Γ σ μ) → va_S A s.heap H locs → W p l e R s m args below meth c H locs cells slots Q (F0 m pc ls st)
/-- what every row uses: machine, code, class, the tables' words, class numbers -/
def wc_C (p : Program) (s : State) (m : MethodId) (args : Array Value) (c : Code) (cc : ByteArray) (nL : Nat) (own : String) (Γ : wc_G) (A : Nat → Prop) : Prop :=
  CallFix p m c cc nL s args wc_tb own ∧ va_K Γ.1 vwCl (wc_tys Γ) s ∧ ∀ q, s.heap.size ≤ q → A q
theorem wr_iconst (C : wc_C p s m args c cc nL own Γ A) {n : Int} {v : Int32} (hd : decode cc pc = .ok (.iconst n, 1)) (hv : Int32.ofInt n = v)
    (kk : wc_K p l e R s m args below meth c nL Γ A Q cells slots (pc + 1) (vs) (.int v :: st) σ μ) : wc_K p l e R s m args below meth c nL Γ A Q cells slots (pc) (vs) (st) σ μ :=
  fun ls H locs hl hP hD hS => lv_iconst C.1.1 C.1.2.1 hd hv (kk ls H locs hl hP hD hS)
theorem wr_bipush (C : wc_C p s m args c cc nL own Γ A) {n : Int} {v : Int32} (hd : decode cc pc = .ok (.bipush n, 2)) (hv : (Int8.ofInt n).toInt32 = v)
    (kk : wc_K p l e R s m args below meth c nL Γ A Q cells slots (pc + 2) (vs) (.int v :: st) σ μ) : wc_K p l e R s m args below meth c nL Γ A Q cells slots (pc) (vs) (st) σ μ :=
  fun ls H locs hl hP hD hS => lv_bipush C.1.1 C.1.2.1 hd hv (kk ls H locs hl hP hD hS)
theorem wr_sipush (C : wc_C p s m args c cc nL own Γ A) {n : Int} {v : Int32} (hd : decode cc pc = .ok (.sipush n, 3)) (hv : (Int16.ofInt n).toInt32 = v)
    (kk : wc_K p l e R s m args below meth c nL Γ A Q cells slots (pc + 3) (vs) (.int v :: st) σ μ) : wc_K p l e R s m args below meth c nL Γ A Q cells slots (pc) (vs) (st) σ μ :=
  fun ls H locs hl hP hD hS => lv_sipush C.1.1 C.1.2.1 hd hv (kk ls H locs hl hP hD hS)
theorem wr_iload_n (C : wc_C p s m args c cc nL own Γ A) {k : Fin 4} {i : Nat} {x : Int32} (j : Nat) (hd : decode cc pc = .ok (.iload_n k, 1)) (hi : (k : Nat) = i) (hv : vs[j]? = some (i, .int x))
    (kk : wc_K p l e R s m args below meth c nL Γ A Q cells slots (pc + 1) (vs) (.int x :: st) σ μ) : wc_K p l e R s m args below meth c nL Γ A Q cells slots (pc) (vs) (st) σ μ :=
  fun ls H locs hl hP hD hS => lv_iload_n C.1.1 C.1.2.1 hd hi (lv_at hl j hv) (kk ls H locs hl hP hD hS)
theorem wr_iload (C : wc_C p s m args c cc nL own Γ A) {i : Nat} {x : Int32} (j : Nat) (hd : decode cc pc = .ok (.iload i, 2)) (hv : vs[j]? = some (i, .int x))
    (kk : wc_K p l e R s m args below meth c nL Γ A Q cells slots (pc + 2) (vs) (.int x :: st) σ μ) : wc_K p l e R s m args below meth c nL Γ A Q cells slots (pc) (vs) (st) σ μ :=
  fun ls H locs hl hP hD hS => lv_iload C.1.1 C.1.2.1 hd (lv_at hl j hv) (kk ls H locs hl hP hD hS)
theorem wr_aload_n (C : wc_C p s m args c cc nL own Γ A) {k : Fin 4} {i : Nat} {x : Nat} (j : Nat) (hd : decode cc pc = .ok (.aload_n k, 1)) (hi : (k : Nat) = i) (hv : vs[j]? = some (i, .ref x))
    (kk : wc_K p l e R s m args below meth c nL Γ A Q cells slots (pc + 1) (vs) (.ref x :: st) σ μ) : wc_K p l e R s m args below meth c nL Γ A Q cells slots (pc) (vs) (st) σ μ :=
  fun ls H locs hl hP hD hS => lv_aload_n C.1.1 C.1.2.1 hd hi (lv_at hl j hv) (kk ls H locs hl hP hD hS)
theorem wr_aload (C : wc_C p s m args c cc nL own Γ A) {i : Nat} {x : Nat} (j : Nat) (hd : decode cc pc = .ok (.aload i, 2)) (hv : vs[j]? = some (i, .ref x))
    (kk : wc_K p l e R s m args below meth c nL Γ A Q cells slots (pc + 2) (vs) (.ref x :: st) σ μ) : wc_K p l e R s m args below meth c nL Γ A Q cells slots (pc) (vs) (st) σ μ :=
  fun ls H locs hl hP hD hS => lv_aload C.1.1 C.1.2.1 hd (lv_at hl j hv) (kk ls H locs hl hP hD hS)
theorem wr_aload_nN (C : wc_C p s m args c cc nL own Γ A) {k : Fin 4} {i : Nat} (j : Nat) (hd : decode cc pc = .ok (.aload_n k, 1)) (hi : (k : Nat) = i) (hv : vs[j]? = some (i, .null))
    (kk : wc_K p l e R s m args below meth c nL Γ A Q cells slots (pc + 1) (vs) (.null :: st) σ μ) : wc_K p l e R s m args below meth c nL Γ A Q cells slots (pc) (vs) (st) σ μ :=
  fun ls H locs hl hP hD hS => lv_aload_nN C.1.1 C.1.2.1 hd hi (lv_at hl j hv) (kk ls H locs hl hP hD hS)
theorem wr_istore_n (C : wc_C p s m args c cc nL own Γ A) {k : Fin 4} {i : Nat} {x : Int32} {vs' : List (Nat × Value)} (hd : decode cc pc = .ok (.istore_n k, 1)) (hi : (k : Nat) = i) (hn : i < nL) (hw : (i, Value.int x) :: vs.filter (fun q => !(q.1 == i) && !(q.1 + 1 == i && q.2.category == 2)) = vs')
    (kk : wc_K p l e R s m args below meth c nL Γ A Q cells slots (pc + 1) (vs') (st) σ μ) : wc_K p l e R s m args below meth c nL Γ A Q cells slots (pc) (vs) (.int x :: st) σ μ :=
  fun ls H locs hl hP hD hS => lv_istore_n C.1.1 C.1.2.1 hd hi hl hn hw (fun ls' hl' => kk ls' H locs hl' hP hD hS)
theorem wr_istore (C : wc_C p s m args c cc nL own Γ A) {i : Nat} {x : Int32} {vs' : List (Nat × Value)} (hd : decode cc pc = .ok (.istore i, 2)) (hn : i < nL) (hw : (i, Value.int x) :: vs.filter (fun q => !(q.1 == i) && !(q.1 + 1 == i && q.2.category == 2)) = vs')
    (kk : wc_K p l e R s m args below meth c nL Γ A Q cells slots (pc + 2) (vs') (st) σ μ) : wc_K p l e R s m args below meth c nL Γ A Q cells slots (pc) (vs) (.int x :: st) σ μ :=
  fun ls H locs hl hP hD hS => lv_istore C.1.1 C.1.2.1 hd hl hn hw (fun ls' hl' => kk ls' H locs hl' hP hD hS)
theorem wr_astore_n (C : wc_C p s m args c cc nL own Γ A) {k : Fin 4} {i : Nat} {x : Nat} {vs' : List (Nat × Value)} (hd : decode cc pc = .ok (.astore_n k, 1)) (hi : (k : Nat) = i) (hn : i < nL) (hw : (i, Value.ref x) :: vs.filter (fun q => !(q.1 == i) && !(q.1 + 1 == i && q.2.category == 2)) = vs')
    (kk : wc_K p l e R s m args below meth c nL Γ A Q cells slots (pc + 1) (vs') (st) σ μ) : wc_K p l e R s m args below meth c nL Γ A Q cells slots (pc) (vs) (.ref x :: st) σ μ :=
  fun ls H locs hl hP hD hS => lv_astore_n C.1.1 C.1.2.1 hd hi hl hn hw (fun ls' hl' => kk ls' H locs hl' hP hD hS)
theorem wr_astore (C : wc_C p s m args c cc nL own Γ A) {i : Nat} {x : Nat} {vs' : List (Nat × Value)} (hd : decode cc pc = .ok (.astore i, 2)) (hn : i < nL) (hw : (i, Value.ref x) :: vs.filter (fun q => !(q.1 == i) && !(q.1 + 1 == i && q.2.category == 2)) = vs')
    (kk : wc_K p l e R s m args below meth c nL Γ A Q cells slots (pc + 2) (vs') (st) σ μ) : wc_K p l e R s m args below meth c nL Γ A Q cells slots (pc) (vs) (.ref x :: st) σ μ :=
  fun ls H locs hl hP hD hS => lv_astore C.1.1 C.1.2.1 hd hl hn hw (fun ls' hl' => kk ls' H locs hl' hP hD hS)
theorem wr_astore_nN (C : wc_C p s m args c cc nL own Γ A) {k : Fin 4} {i : Nat} {vs' : List (Nat × Value)} (hd : decode cc pc = .ok (.astore_n k, 1)) (hi : (k : Nat) = i) (hn : i < nL) (hw : (i, Value.null) :: vs.filter (fun q => !(q.1 == i) && !(q.1 + 1 == i && q.2.category == 2)) = vs')
    (kk : wc_K p l e R s m args below meth c nL Γ A Q cells slots (pc + 1) (vs') (st) σ μ) : wc_K p l e R s m args below meth c nL Γ A Q cells slots (pc) (vs) (.null :: st) σ μ :=
  fun ls H locs hl hP hD hS => lv_astore_nN C.1.1 C.1.2.1 hd hi hl hn hw (fun ls' hl' => kk ls' H locs hl' hP hD hS)
theorem wr_iinc (C : wc_C p s m args c cc nL own Γ A) {i : Nat} {n : Int} {x v : Int32} {vs' : List (Nat × Value)} (j : Nat) (hd : decode cc pc = .ok (.iinc i n, 3)) (hk : vs[j]? = some (i, .int x)) (hv : x + Int32.ofInt n = v) (hn : i < nL) (hw : (i, Value.int v) :: vs.filter (fun q => !(q.1 == i) && !(q.1 + 1 == i && q.2.category == 2)) = vs')
    (kk : wc_K p l e R s m args below meth c nL Γ A Q cells slots (pc + 3) (vs') (st) σ μ) : wc_K p l e R s m args below meth c nL Γ A Q cells slots (pc) (vs) (st) σ μ :=
  fun ls H locs hl hP hD hS => lv_iinc C.1.1 C.1.2.1 hd hl hk hv hn hw (fun ls' hl' => kk ls' H locs hl' hP hD hS)
theorem wr_iadd (C : wc_C p s m args c cc nL own Γ A) {x y z : Int32} (hd : decode cc pc = .ok (.iadd, 1)) (hz : x + y = z)
    (kk : wc_K p l e R s m args below meth c nL Γ A Q cells slots (pc + 1) (vs) (.int z :: st) σ μ) : wc_K p l e R s m args below meth c nL Γ A Q cells slots (pc) (vs) (.int y :: .int x :: st) σ μ := by
  subst hz; exact fun ls H locs hl hP hD hS => lv_iadd C.1.1 C.1.2.1 hd (kk ls H locs hl hP hD hS)
theorem wr_isub (C : wc_C p s m args c cc nL own Γ A) {x y z : Int32} (hd : decode cc pc = .ok (.isub, 1)) (hz : x - y = z)
    (kk : wc_K p l e R s m args below meth c nL Γ A Q cells slots (pc + 1) (vs) (.int z :: st) σ μ) : wc_K p l e R s m args below meth c nL Γ A Q cells slots (pc) (vs) (.int y :: .int x :: st) σ μ := by
  subst hz; exact fun ls H locs hl hP hD hS => lv_isub C.1.1 C.1.2.1 hd (kk ls H locs hl hP hD hS)
theorem wr_imul (C : wc_C p s m args c cc nL own Γ A) {x y z : Int32} (hd : decode cc pc = .ok (.imul, 1)) (hz : x * y = z)
    (kk : wc_K p l e R s m args below meth c nL Γ A Q cells slots (pc + 1) (vs) (.int z :: st) σ μ) : wc_K p l e R s m args below meth c nL Γ A Q cells slots (pc) (vs) (.int y :: .int x :: st) σ μ := by
  subst hz; exact fun ls H locs hl hP hD hS => lv_imul C.1.1 C.1.2.1 hd (kk ls H locs hl hP hD hS)
theorem wr_ior (C : wc_C p s m args c cc nL own Γ A) {x y z : Int32} (hd : decode cc pc = .ok (.ior, 1)) (hz : x ||| y = z)
    (kk : wc_K p l e R s m args below meth c nL Γ A Q cells slots (pc + 1) (vs) (.int z :: st) σ μ) : wc_K p l e R s m args below meth c nL Γ A Q cells slots (pc) (vs) (.int y :: .int x :: st) σ μ := by
  subst hz; exact fun ls H locs hl hP hD hS => lv_ior C.1.1 C.1.2.1 hd (kk ls H locs hl hP hD hS)
theorem wr_iand (C : wc_C p s m args c cc nL own Γ A) {x y z : Int32} (hd : decode cc pc = .ok (.iand, 1)) (hz : x &&& y = z)
    (kk : wc_K p l e R s m args below meth c nL Γ A Q cells slots (pc + 1) (vs) (.int z :: st) σ μ) : wc_K p l e R s m args below meth c nL Γ A Q cells slots (pc) (vs) (.int y :: .int x :: st) σ μ := by
  subst hz; exact fun ls H locs hl hP hD hS => lv_iand C.1.1 C.1.2.1 hd (kk ls H locs hl hP hD hS)
theorem wr_ishl (C : wc_C p s m args c cc nL own Γ A) {x y z : Int32} (hd : decode cc pc = .ok (.ishl, 1)) (hz : x <<< (y &&& 31) = z)
    (kk : wc_K p l e R s m args below meth c nL Γ A Q cells slots (pc + 1) (vs) (.int z :: st) σ μ) : wc_K p l e R s m args below meth c nL Γ A Q cells slots (pc) (vs) (.int y :: .int x :: st) σ μ := by
  subst hz; exact fun ls H locs hl hP hD hS => lv_ishl C.1.1 C.1.2.1 hd (kk ls H locs hl hP hD hS)
theorem wr_idiv (C : wc_C p s m args c cc nL own Γ A) {x y z : Int32} (hd : decode cc pc = .ok (.idiv, 1)) (hne : ¬ y = 0) (hz : x / y = z)
    (kk : wc_K p l e R s m args below meth c nL Γ A Q cells slots (pc + 1) (vs) (.int z :: st) σ μ) : wc_K p l e R s m args below meth c nL Γ A Q cells slots (pc) (vs) (.int y :: .int x :: st) σ μ := by
  subst hz; exact fun ls H locs hl hP hD hS => lv_idiv C.1.1 C.1.2.1 hd hne (kk ls H locs hl hP hD hS)
theorem wr_irem (C : wc_C p s m args c cc nL own Γ A) {x y z : Int32} (hd : decode cc pc = .ok (.irem, 1)) (hne : ¬ y = 0) (hz : x - x / y * y = z)
    (kk : wc_K p l e R s m args below meth c nL Γ A Q cells slots (pc + 1) (vs) (.int z :: st) σ μ) : wc_K p l e R s m args below meth c nL Γ A Q cells slots (pc) (vs) (.int y :: .int x :: st) σ μ := by
  subst hz; exact fun ls H locs hl hP hD hS => lv_irem C.1.1 C.1.2.1 hd hne (kk ls H locs hl hP hD hS)
theorem wr_i2l (C : wc_C p s m args c cc nL own Γ A) {x : Int32} (hd : decode cc pc = .ok (.i2l, 1))
    (kk : wc_K p l e R s m args below meth c nL Γ A Q cells slots (pc + 1) (vs) (.long x.toInt64 :: st) σ μ) : wc_K p l e R s m args below meth c nL Γ A Q cells slots (pc) (vs) (.int x :: st) σ μ :=
  fun ls H locs hl hP hD hS => lv_i2l C.1.1 C.1.2.1 hd rfl (kk ls H locs hl hP hD hS)
theorem wr_lcmp (C : wc_C p s m args c cc nL own Γ A) {x y : Int64} (hd : decode cc pc = .ok (.lcmp, 1))
    (kk : wc_K p l e R s m args below meth c nL Γ A Q cells slots (pc + 1) (vs) (.int (lg_cmp x y) :: st) σ μ) : wc_K p l e R s m args below meth c nL Γ A Q cells slots (pc) (vs) (.long y :: .long x :: st) σ μ :=
  fun ls H locs hl hP hD hS => W.lcmp C.1.1 C.1.2.1 hd (kk ls H locs hl hP hD hS)
theorem wr_dup (C : wc_C p s m args c cc nL own Γ A) {va : Value} (hd : decode cc pc = .ok (.dup, 1)) (hva : va.category = 1)
    (kk : wc_K p l e R s m args below meth c nL Γ A Q cells slots (pc + 1) (vs) (va :: va :: st) σ μ) : wc_K p l e R s m args below meth c nL Γ A Q cells slots (pc) (vs) (va :: st) σ μ :=
  fun ls H locs hl hP hD hS => lv_dup C.1.1 C.1.2.1 hd hva (kk ls H locs hl hP hD hS)
theorem wr_dup_x1 (C : wc_C p s m args c cc nL own Γ A) {va vb : Value} (hd : decode cc pc = .ok (.dup_x1, 1)) (hva : va.category = 1) (hvb : vb.category = 1)
    (kk : wc_K p l e R s m args below meth c nL Γ A Q cells slots (pc + 1) (vs) (va :: vb :: va :: st) σ μ) : wc_K p l e R s m args below meth c nL Γ A Q cells slots (pc) (vs) (va :: vb :: st) σ μ :=
  fun ls H locs hl hP hD hS => lv_dup_x1 C.1.1 C.1.2.1 hd hva hvb (kk ls H locs hl hP hD hS)
theorem wr_dup2 (C : wc_C p s m args c cc nL own Γ A) {va vb : Value} (hd : decode cc pc = .ok (.dup2, 1)) (hva : va.category = 1) (hvb : vb.category = 1)
    (kk : wc_K p l e R s m args below meth c nL Γ A Q cells slots (pc + 1) (vs) (va :: vb :: va :: vb :: st) σ μ) : wc_K p l e R s m args below meth c nL Γ A Q cells slots (pc) (vs) (va :: vb :: st) σ μ :=
  fun ls H locs hl hP hD hS => lv_dup2_11 C.1.1 C.1.2.1 hd hva hvb (kk ls H locs hl hP hD hS)
theorem wr_pop (C : wc_C p s m args c cc nL own Γ A) {va : Value} (hd : decode cc pc = .ok (.pop, 1)) (hva : va.category = 1)
    (kk : wc_K p l e R s m args below meth c nL Γ A Q cells slots (pc + 1) (vs) (st) σ μ) : wc_K p l e R s m args below meth c nL Γ A Q cells slots (pc) (vs) (va :: st) σ μ :=
  fun ls H locs hl hP hD hS => lv_pop C.1.1 C.1.2.1 hd hva (kk ls H locs hl hP hD hS)
theorem wr_null (C : wc_C p s m args c cc nL own Γ A)  (hd : decode cc pc = .ok (.aconst_null, 1))
    (kk : wc_K p l e R s m args below meth c nL Γ A Q cells slots (pc + 1) (vs) (.null :: st) σ μ) : wc_K p l e R s m args below meth c nL Γ A Q cells slots (pc) (vs) (st) σ μ :=
  fun ls H locs hl hP hD hS => lv_null C.1.1 C.1.2.1 hd (kk ls H locs hl hP hD hS)
theorem wr_ldc (C : wc_C p s m args c cc nL own Γ A) {index : Nat} {v : Int32} (hd : decode cc pc = .ok (.ldc index, 2)) (hc : Cond.constant own index v ∈ wc_tb)
    (kk : wc_K p l e R s m args below meth c nL Γ A Q cells slots (pc + 2) (vs) (.int v :: st) σ μ) : wc_K p l e R s m args below meth c nL Γ A Q cells slots (pc) (vs) (st) σ μ :=
  fun ls H locs hl hP hD hS => lv_ldc C.1.1 C.1.2.1 C.1.2.2.2.1 (C.1.2.2.2.2 _ hc) hd (kk ls H locs hl hP hD hS)
theorem wr_ldc2 (C : wc_C p s m args c cc nL own Γ A) {index : Nat} {v : Int64} (hd : decode cc pc = .ok (.ldc2_w index, 3)) (hc : Cond.constantLong own index v ∈ wc_tb)
    (kk : wc_K p l e R s m args below meth c nL Γ A Q cells slots (pc + 3) (vs) (.long v :: st) σ μ) : wc_K p l e R s m args below meth c nL Γ A Q cells slots (pc) (vs) (st) σ μ :=
  fun ls H locs hl hP hD hS => lv_ldc2 C.1.1 C.1.2.1 C.1.2.2.2.1 (C.1.2.2.2.2 _ hc) hd (kk ls H locs hl hP hD hS)
theorem wr_if_eq (C : wc_C p s m args c cc nL own Γ A) {x : Int32} {off : Int} {tgt : Nat} (hd : decode cc pc = .ok (.ifCond .eq off, 3)) (ht : (pc : Int) + off = (tgt : Int))
    (kt : x = 0 → wc_K p l e R s m args below meth c nL Γ A Q cells slots (tgt) (vs) (st) σ μ) (kf : ¬ x = 0 → wc_K p l e R s m args below meth c nL Γ A Q cells slots (pc + 3) (vs) (st) σ μ) : wc_K p l e R s m args below meth c nL Γ A Q cells slots (pc) (vs) (.int x :: st) σ μ :=
  fun ls H locs hl hP hD hS => lv_if_eq C.1.1 C.1.2.1 hd ht (fun h => kt h ls H locs hl hP hD hS) (fun h => kf h ls H locs hl hP hD hS)
theorem wr_icmp_eq (C : wc_C p s m args c cc nL own Γ A) {x y : Int32} {off : Int} {tgt : Nat} (hd : decode cc pc = .ok (.if_icmp .eq off, 3)) (ht : (pc : Int) + off = (tgt : Int))
    (kt : x = y → wc_K p l e R s m args below meth c nL Γ A Q cells slots (tgt) (vs) (st) σ μ) (kf : ¬ x = y → wc_K p l e R s m args below meth c nL Γ A Q cells slots (pc + 3) (vs) (st) σ μ) : wc_K p l e R s m args below meth c nL Γ A Q cells slots (pc) (vs) (.int y :: .int x :: st) σ μ :=
  fun ls H locs hl hP hD hS => lv_icmp_eq C.1.1 C.1.2.1 hd ht (fun h => kt h ls H locs hl hP hD hS) (fun h => kf h ls H locs hl hP hD hS)
theorem wr_if_ne (C : wc_C p s m args c cc nL own Γ A) {x : Int32} {off : Int} {tgt : Nat} (hd : decode cc pc = .ok (.ifCond .ne off, 3)) (ht : (pc : Int) + off = (tgt : Int))
    (kt : ¬ x = 0 → wc_K p l e R s m args below meth c nL Γ A Q cells slots (tgt) (vs) (st) σ μ) (kf : x = 0 → wc_K p l e R s m args below meth c nL Γ A Q cells slots (pc + 3) (vs) (st) σ μ) : wc_K p l e R s m args below meth c nL Γ A Q cells slots (pc) (vs) (.int x :: st) σ μ :=
  fun ls H locs hl hP hD hS => lv_if_ne C.1.1 C.1.2.1 hd ht (fun h => kt h ls H locs hl hP hD hS) (fun h => kf h ls H locs hl hP hD hS)
theorem wr_icmp_ne (C : wc_C p s m args c cc nL own Γ A) {x y : Int32} {off : Int} {tgt : Nat} (hd : decode cc pc = .ok (.if_icmp .ne off, 3)) (ht : (pc : Int) + off = (tgt : Int))
    (kt : ¬ x = y → wc_K p l e R s m args below meth c nL Γ A Q cells slots (tgt) (vs) (st) σ μ) (kf : x = y → wc_K p l e R s m args below meth c nL Γ A Q cells slots (pc + 3) (vs) (st) σ μ) : wc_K p l e R s m args below meth c nL Γ A Q cells slots (pc) (vs) (.int y :: .int x :: st) σ μ :=
  fun ls H locs hl hP hD hS => lv_icmp_ne C.1.1 C.1.2.1 hd ht (fun h => kt h ls H locs hl hP hD hS) (fun h => kf h ls H locs hl hP hD hS)
theorem wr_if_lt (C : wc_C p s m args c cc nL own Γ A) {x : Int32} {off : Int} {tgt : Nat} (hd : decode cc pc = .ok (.ifCond .lt off, 3)) (ht : (pc : Int) + off = (tgt : Int))
    (kt : x < 0 → wc_K p l e R s m args below meth c nL Γ A Q cells slots (tgt) (vs) (st) σ μ) (kf : ¬ x < 0 → wc_K p l e R s m args below meth c nL Γ A Q cells slots (pc + 3) (vs) (st) σ μ) : wc_K p l e R s m args below meth c nL Γ A Q cells slots (pc) (vs) (.int x :: st) σ μ :=
  fun ls H locs hl hP hD hS => lv_if_lt C.1.1 C.1.2.1 hd ht (fun h => kt h ls H locs hl hP hD hS) (fun h => kf h ls H locs hl hP hD hS)
theorem wr_icmp_lt (C : wc_C p s m args c cc nL own Γ A) {x y : Int32} {off : Int} {tgt : Nat} (hd : decode cc pc = .ok (.if_icmp .lt off, 3)) (ht : (pc : Int) + off = (tgt : Int))
    (kt : x < y → wc_K p l e R s m args below meth c nL Γ A Q cells slots (tgt) (vs) (st) σ μ) (kf : ¬ x < y → wc_K p l e R s m args below meth c nL Γ A Q cells slots (pc + 3) (vs) (st) σ μ) : wc_K p l e R s m args below meth c nL Γ A Q cells slots (pc) (vs) (.int y :: .int x :: st) σ μ :=
  fun ls H locs hl hP hD hS => lv_icmp_lt C.1.1 C.1.2.1 hd ht (fun h => kt h ls H locs hl hP hD hS) (fun h => kf h ls H locs hl hP hD hS)
theorem wr_if_ge (C : wc_C p s m args c cc nL own Γ A) {x : Int32} {off : Int} {tgt : Nat} (hd : decode cc pc = .ok (.ifCond .ge off, 3)) (ht : (pc : Int) + off = (tgt : Int))
    (kt : 0 ≤ x → wc_K p l e R s m args below meth c nL Γ A Q cells slots (tgt) (vs) (st) σ μ) (kf : ¬ 0 ≤ x → wc_K p l e R s m args below meth c nL Γ A Q cells slots (pc + 3) (vs) (st) σ μ) : wc_K p l e R s m args below meth c nL Γ A Q cells slots (pc) (vs) (.int x :: st) σ μ :=
  fun ls H locs hl hP hD hS => lv_if_ge C.1.1 C.1.2.1 hd ht (fun h => kt h ls H locs hl hP hD hS) (fun h => kf h ls H locs hl hP hD hS)
theorem wr_icmp_ge (C : wc_C p s m args c cc nL own Γ A) {x y : Int32} {off : Int} {tgt : Nat} (hd : decode cc pc = .ok (.if_icmp .ge off, 3)) (ht : (pc : Int) + off = (tgt : Int))
    (kt : y ≤ x → wc_K p l e R s m args below meth c nL Γ A Q cells slots (tgt) (vs) (st) σ μ) (kf : ¬ y ≤ x → wc_K p l e R s m args below meth c nL Γ A Q cells slots (pc + 3) (vs) (st) σ μ) : wc_K p l e R s m args below meth c nL Γ A Q cells slots (pc) (vs) (.int y :: .int x :: st) σ μ :=
  fun ls H locs hl hP hD hS => lv_icmp_ge C.1.1 C.1.2.1 hd ht (fun h => kt h ls H locs hl hP hD hS) (fun h => kf h ls H locs hl hP hD hS)
theorem wr_if_gt (C : wc_C p s m args c cc nL own Γ A) {x : Int32} {off : Int} {tgt : Nat} (hd : decode cc pc = .ok (.ifCond .gt off, 3)) (ht : (pc : Int) + off = (tgt : Int))
    (kt : 0 < x → wc_K p l e R s m args below meth c nL Γ A Q cells slots (tgt) (vs) (st) σ μ) (kf : ¬ 0 < x → wc_K p l e R s m args below meth c nL Γ A Q cells slots (pc + 3) (vs) (st) σ μ) : wc_K p l e R s m args below meth c nL Γ A Q cells slots (pc) (vs) (.int x :: st) σ μ :=
  fun ls H locs hl hP hD hS => lv_if_gt C.1.1 C.1.2.1 hd ht (fun h => kt h ls H locs hl hP hD hS) (fun h => kf h ls H locs hl hP hD hS)
theorem wr_icmp_gt (C : wc_C p s m args c cc nL own Γ A) {x y : Int32} {off : Int} {tgt : Nat} (hd : decode cc pc = .ok (.if_icmp .gt off, 3)) (ht : (pc : Int) + off = (tgt : Int))
    (kt : y < x → wc_K p l e R s m args below meth c nL Γ A Q cells slots (tgt) (vs) (st) σ μ) (kf : ¬ y < x → wc_K p l e R s m args below meth c nL Γ A Q cells slots (pc + 3) (vs) (st) σ μ) : wc_K p l e R s m args below meth c nL Γ A Q cells slots (pc) (vs) (.int y :: .int x :: st) σ μ :=
  fun ls H locs hl hP hD hS => lv_icmp_gt C.1.1 C.1.2.1 hd ht (fun h => kt h ls H locs hl hP hD hS) (fun h => kf h ls H locs hl hP hD hS)
theorem wr_if_le (C : wc_C p s m args c cc nL own Γ A) {x : Int32} {off : Int} {tgt : Nat} (hd : decode cc pc = .ok (.ifCond .le off, 3)) (ht : (pc : Int) + off = (tgt : Int))
    (kt : x ≤ 0 → wc_K p l e R s m args below meth c nL Γ A Q cells slots (tgt) (vs) (st) σ μ) (kf : ¬ x ≤ 0 → wc_K p l e R s m args below meth c nL Γ A Q cells slots (pc + 3) (vs) (st) σ μ) : wc_K p l e R s m args below meth c nL Γ A Q cells slots (pc) (vs) (.int x :: st) σ μ :=
  fun ls H locs hl hP hD hS => lv_if_le C.1.1 C.1.2.1 hd ht (fun h => kt h ls H locs hl hP hD hS) (fun h => kf h ls H locs hl hP hD hS)
theorem wr_icmp_le (C : wc_C p s m args c cc nL own Γ A) {x y : Int32} {off : Int} {tgt : Nat} (hd : decode cc pc = .ok (.if_icmp .le off, 3)) (ht : (pc : Int) + off = (tgt : Int))
    (kt : x ≤ y → wc_K p l e R s m args below meth c nL Γ A Q cells slots (tgt) (vs) (st) σ μ) (kf : ¬ x ≤ y → wc_K p l e R s m args below meth c nL Γ A Q cells slots (pc + 3) (vs) (st) σ μ) : wc_K p l e R s m args below meth c nL Γ A Q cells slots (pc) (vs) (.int y :: .int x :: st) σ μ :=
  fun ls H locs hl hP hD hS => lv_icmp_le C.1.1 C.1.2.1 hd ht (fun h => kt h ls H locs hl hP hD hS) (fun h => kf h ls H locs hl hP hD hS)
theorem wr_goto (C : wc_C p s m args c cc nL own Γ A) {off : Int} {tgt : Nat} (hd : decode cc pc = .ok (.goto off, 3)) (ht : (pc : Int) + off = (tgt : Int)) (kk : wc_K p l e R s m args below meth c nL Γ A Q cells slots (tgt) (vs) (st) σ μ) : wc_K p l e R s m args below meth c nL Γ A Q cells slots (pc) (vs) (st) σ μ :=
  fun ls H locs hl hP hD hS => lv_goto C.1.1 C.1.2.1 hd ht (kk ls H locs hl hP hD hS)
theorem wr_ifnonnull (C : wc_C p s m args c cc nL own Γ A) {x : Nat} {off : Int} {tgt : Nat} (hd : decode cc pc = .ok (.ifnonnull off, 3)) (ht : (pc : Int) + off = (tgt : Int)) (kk : wc_K p l e R s m args below meth c nL Γ A Q cells slots (tgt) (vs) (st) σ μ) : wc_K p l e R s m args below meth c nL Γ A Q cells slots (pc) (vs) (.ref x :: st) σ μ :=
  fun ls H locs hl hP hD hS => lv_ifnonnull C.1.1 C.1.2.1 hd ht (kk ls H locs hl hP hD hS)
theorem wr_ifnonnullN (C : wc_C p s m args c cc nL own Γ A) {off : Int} (hd : decode cc pc = .ok (.ifnonnull off, 3)) (kk : wc_K p l e R s m args below meth c nL Γ A Q cells slots (pc + 3) (vs) (st) σ μ) : wc_K p l e R s m args below meth c nL Γ A Q cells slots (pc) (vs) (.null :: st) σ μ :=
  fun ls H locs hl hP hD hS => lv_ifnonnullN C.1.1 C.1.2.1 hd (kk ls H locs hl hP hD hS)
theorem wr_ifnull (C : wc_C p s m args c cc nL own Γ A) {x : Nat} {off : Int} (hd : decode cc pc = .ok (.ifnull off, 3)) (kk : wc_K p l e R s m args below meth c nL Γ A Q cells slots (pc + 3) (vs) (st) σ μ) : wc_K p l e R s m args below meth c nL Γ A Q cells slots (pc) (vs) (.ref x :: st) σ μ :=
  fun ls H locs hl hP hD hS => lv_ifnull C.1.1 C.1.2.1 hd (kk ls H locs hl hP hD hS)
theorem wr_ifnullN (C : wc_C p s m args c cc nL own Γ A) {off : Int} {tgt : Nat} (hd : decode cc pc = .ok (.ifnull off, 3)) (ht : (pc : Int) + off = (tgt : Int)) (kk : wc_K p l e R s m args below meth c nL Γ A Q cells slots (tgt) (vs) (st) σ μ) : wc_K p l e R s m args below meth c nL Γ A Q cells slots (pc) (vs) (.null :: st) σ μ :=
  fun ls H locs hl hP hD hS => lv_ifnullN C.1.1 C.1.2.1 hd ht (kk ls H locs hl hP hD hS)
theorem wr_acmp_ne (C : wc_C p s m args c cc nL own Γ A) {x y : Nat} {off : Int} {tgt : Nat} (hd : decode cc pc = .ok (.if_acmp .ne off, 3)) (ht : (pc : Int) + off = (tgt : Int)) (kt : ¬ x = y → wc_K p l e R s m args below meth c nL Γ A Q cells slots (tgt) (vs) (st) σ μ) (kf : x = y → wc_K p l e R s m args below meth c nL Γ A Q cells slots (pc + 3) (vs) (st) σ μ) : wc_K p l e R s m args below meth c nL Γ A Q cells slots (pc) (vs) (.ref y :: .ref x :: st) σ μ :=
  fun ls H locs hl hP hD hS => lv_acmp_ne (rx := some x) (ry := some y) C.1.1 C.1.2.1 hd ht (fun h => kt (fun q => h (by rw [q])) ls H locs hl hP hD hS) (fun h => kf (Option.some.inj h) ls H locs hl hP hD hS)
theorem wr_acmp_eq (C : wc_C p s m args c cc nL own Γ A) {x y : Nat} {off : Int} {tgt : Nat} (hd : decode cc pc = .ok (.if_acmp .eq off, 3)) (ht : (pc : Int) + off = (tgt : Int)) (kt : x = y → wc_K p l e R s m args below meth c nL Γ A Q cells slots (tgt) (vs) (st) σ μ) (kf : ¬ x = y → wc_K p l e R s m args below meth c nL Γ A Q cells slots (pc + 3) (vs) (st) σ μ) : wc_K p l e R s m args below meth c nL Γ A Q cells slots (pc) (vs) (.ref y :: .ref x :: st) σ μ :=
  fun ls H locs hl hP hD hS => lv_acmp_eq (rx := some x) (ry := some y) C.1.1 C.1.2.1 hd ht (fun h => kt (Option.some.inj h) ls H locs hl hP hD hS) (fun h => kf (fun q => h (by rw [q])) ls H locs hl hP hD hS)
/-- another name of the top, of the state -/
theorem wr_top {x y : Int32} (h : x = y) (kk : wc_K p l e R s m args below meth c nL Γ A Q cells slots (pc) (vs) (.int y :: st) σ μ) : wc_K p l e R s m args below meth c nL Γ A Q cells slots (pc) (vs) (.int x :: st) σ μ := by
  subst h; exact kk
theorem wr_eq {σ' μ' : wc_St} (h : σ = σ') (h2 : μ = μ') (kk : wc_K p l e R s m args below meth c nL Γ A Q cells slots (pc) (vs) (st) σ' μ') : wc_K p l e R s m args below meth c nL Γ A Q cells slots (pc) (vs) (st) σ μ := by
  subst h; subst h2; exact kk
theorem wr_vs {vs' : List (Nat × Value)} (h : vs = vs') (kk : wc_K p l e R s m args below meth c nL Γ A Q cells slots (pc) (vs') (st) σ μ) : wc_K p l e R s m args below meth c nL Γ A Q cells slots (pc) (vs) (st) σ μ := by
  subst h; exact kk
theorem wr_sub {vs' : List (Nat × Value)} (ks : List Nat) (h : lv_pick vs ks = vs') (kk : wc_K p l e R s m args below meth c nL Γ A Q cells slots (pc) (vs') (st) σ μ) : wc_K p l e R s m args below meth c nL Γ A Q cells slots (pc) (vs) (st) σ μ :=
  fun ls H locs hl hP hD hS => kk ls H locs (lv_sub hl ks h) hP hD hS
/-- a field's word, as an own field or a nest mate's -/
def wc_lk (own : String) (index : Nat) (t : String × String × String × Bool) : Prop := Cond.fieldLink own index t.1 t.2.1 t.2.2.1 ∈ wc_tb ∨ ∃ host, Cond.fieldLinkNest own index t.1 t.2.1 t.2.2.1 host ∈ wc_tb
theorem wr_get (C : wc_C p s m args c cc nL own Γ A) {q ci N k index : Nat} {T : u_T} {Cn : String} {fs : List Value} {v : Value} (hq : q < 91) (hcell : wc_cell Γ σ μ q = .inr (ci, fs)) (hc : vwCl[ci]? = some (Cn, T, N)) (hk : k < N) (hin : ∀ w ∈ u_ws Cn T N, w ∈ wc_tb) (hlk : wc_lk own index (T k)) (hv : fs[k]? = some v) (hd : decode cc pc = .ok (.getfield index, 3))
    (kk : wc_K p l e R s m args below meth c nL Γ A Q cells slots (pc + 3) (vs) (v :: st) σ μ) : wc_K p l e R s m args below meth c nL Γ A Q cells slots (pc) (vs) (.ref (Γ.2.2 q) :: st) σ μ := by
  intro ls H locs hl hP hD hS
  rcases hlk with h | ⟨host, h⟩
  · exact va_get C.1.1 C.1.2.1 C.1.2.2.2.2 hin C.1.2.2.2.1 C.2.1 hP q (wc_at hq hcell) hc k hk (C.1.2.2.2.2 _ h) (fun _ h => h) hv hd (kk ls H locs hl hP hD hS)
  · exact va_getN C.1.1 C.1.2.1 C.1.2.2.2.2 hin C.1.2.2.2.1 C.2.1 hP q (wc_at hq hcell) hc k hk (C.1.2.2.2.2 _ h) (fun _ h => h) hv hd (kk ls H locs hl hP hD hS)
theorem wr_put (C : wc_C p s m args c cc nL own Γ A) {q ci N k index : Nat} {T : u_T} {Cn : String} {fs : List Value} {v : Value} {σ' μ' : wc_St} {ty : FieldType} (hq : q < 91) (hcell : wc_cell Γ σ μ q = .inr (ci, fs)) (hc : vwCl[ci]? = some (Cn, T, N)) (hk : k < N) (hin : ∀ w ∈ u_ws Cn T N, w ∈ wc_tb) (ty0 : Nat → FieldType) (hty : ∀ k, k < N → parseFieldDescriptor (T k).2.2.1 = some (ty0 k)) (hnm : ∀ a, a < N → ∀ b, b < N → a ≠ b → (T a).2.1 ≠ (T b).2.1) (hfin : (T k).2.2.2 = false) (hds : parseFieldDescriptor (T k).2.2.1 = some ty) (hlen : k < fs.length) (hset : (wc_wl Γ σ μ).set q (Γ.2.2 q, .inr (ci, fs.set k v)) = wc_wl Γ σ' μ') (hlk : wc_lk own index (T k)) (hn : narrow ty v = v) (hfit : fits ty v = true) (hd : decode cc pc = .ok (.putfield index, 3))
    (kk : wc_K p l e R s m args below meth c nL Γ A Q cells slots (pc + 3) (vs) (st) σ' μ') : wc_K p l e R s m args below meth c nL Γ A Q cells slots (pc) (vs) (v :: .ref (Γ.2.2 q) :: st) σ μ := by
  intro ls H locs hl hP hD hS
  rcases hlk with h | ⟨host, h⟩
  · refine va_put C.1.1 C.1.2.1 C.1.2.2.2.2 hin ty0 hty hnm C.1.2.2.2.1 C.2.1 hP hD hS q (wc_at hq hcell) hc k hk (C.1.2.2.2.2 _ h) (fun _ h => h) hfin hds hn hfit hlen hd (fun H1 locs1 hP1 hD1 hS1 => ?_)
    rw [hset] at hP1 hD1
    exact kk ls H1 locs1 hl hP1 hD1 hS1
  · refine va_putN C.1.1 C.1.2.1 C.1.2.2.2.2 hin ty0 hty hnm C.1.2.2.2.1 C.2.1 hP hD hS q (wc_at hq hcell) hc k hk (C.1.2.2.2.2 _ h) (fun _ h => h) hfin hds hn hfit hlen hd (fun H1 locs1 hP1 hD1 hS1 => ?_)
    rw [hset] at hP1 hD1
    exact kk ls H1 locs1 hl hP1 hD1 hS1
theorem wr_ild (C : wc_C p s m args c cc nL own Γ A) {q n t0 i : Nat} {f : Nat → Int32} {cA : ClassId} (hq : q < 91) (hcell : wc_cell Γ σ μ q = .inl (cA, n, .inl f)) (ht : (wc_tys Γ)[t0]? = some (cA, .int)) (hi : i < n) (hn : n < 2 ^ 31) (hd : decode cc pc = .ok (.iaload, 1))
    (kk : wc_K p l e R s m args below meth c nL Γ A Q cells slots (pc + 1) (vs) (.int (f i) :: st) σ μ) : wc_K p l e R s m args below meth c nL Γ A Q cells slots (pc) (vs) (.int (nI i) :: .ref (Γ.2.2 q) :: st) σ μ := by
  intro ls H locs hl hP hD hS
  refine va_iald C.1.1 C.1.2.1 C.2.1 hP q t0 (wc_at hq hcell) ht (vp_in_nI hi hn) hd ?_
  rw [nI_clamp (by omega)]
  exact kk ls H locs hl hP hD hS
theorem wr_zld (C : wc_C p s m args c cc nL own Γ A) {q n t0 i : Nat} {f : Nat → Int32} {cA : ClassId} (hq : q < 91) (hcell : wc_cell Γ σ μ q = .inl (cA, n, .inl f)) (ht : (wc_tys Γ)[t0]? = some (cA, .boolean)) (hi : i < n) (hn : n < 2 ^ 31) (hd : decode cc pc = .ok (.baload, 1))
    (kk : wc_K p l e R s m args below meth c nL Γ A Q cells slots (pc + 1) (vs) (.int (f i) :: st) σ μ) : wc_K p l e R s m args below meth c nL Γ A Q cells slots (pc) (vs) (.int (nI i) :: .ref (Γ.2.2 q) :: st) σ μ := by
  intro ls H locs hl hP hD hS
  refine va_zald C.1.1 C.1.2.1 C.2.1 hP q t0 (wc_at hq hcell) ht (vp_in_nI hi hn) hd ?_
  rw [nI_clamp (by omega)]
  exact kk ls H locs hl hP hD hS
theorem wr_ist (C : wc_C p s m args c cc nL own Γ A) {q n t0 i : Nat} {f : Nat → Int32} {cA : ClassId} {x : Int32} {σ' μ' : wc_St} (hq : q < 91) (hcell : wc_cell Γ σ μ q = .inl (cA, n, .inl f)) (ht : (wc_tys Γ)[t0]? = some (cA, .int)) (hi : i < n) (hn : n < 2 ^ 31) (hset : (wc_wl Γ σ μ).set q (Γ.2.2 q, .inl (cA, n, .inl (upd f i (x)))) = wc_wl Γ σ' μ') (hd : decode cc pc = .ok (.iastore, 1))
    (kk : wc_K p l e R s m args below meth c nL Γ A Q cells slots (pc + 1) (vs) (st) σ' μ') : wc_K p l e R s m args below meth c nL Γ A Q cells slots (pc) (vs) (.int x :: .int (nI i) :: .ref (Γ.2.2 q) :: st) σ μ := by
  intro ls H locs hl hP hD hS
  refine va_iast C.1.1 C.1.2.1 C.2.1 hP hD hS q t0 (wc_at hq hcell) ht (vp_in_nI hi hn) hd (fun H1 locs1 hP1 hD1 hS1 => ?_)
  rw [nI_clamp (by omega), hset] at hP1 hD1
  exact kk ls H1 locs1 hl hP1 hD1 hS1
theorem wr_zst (C : wc_C p s m args c cc nL own Γ A) {q n t0 i : Nat} {f : Nat → Int32} {cA : ClassId} {x : Int32} {σ' μ' : wc_St} (hq : q < 91) (hcell : wc_cell Γ σ μ q = .inl (cA, n, .inl f)) (ht : (wc_tys Γ)[t0]? = some (cA, .boolean)) (hi : i < n) (hn : n < 2 ^ 31) (hset : (wc_wl Γ σ μ).set q (Γ.2.2 q, .inl (cA, n, .inl (upd f i (vp_nar .boolean x)))) = wc_wl Γ σ' μ') (hd : decode cc pc = .ok (.bastore, 1))
    (kk : wc_K p l e R s m args below meth c nL Γ A Q cells slots (pc + 1) (vs) (st) σ' μ') : wc_K p l e R s m args below meth c nL Γ A Q cells slots (pc) (vs) (.int x :: .int (nI i) :: .ref (Γ.2.2 q) :: st) σ μ := by
  intro ls H locs hl hP hD hS
  refine va_zast C.1.1 C.1.2.1 C.2.1 hP hD hS q t0 (wc_at hq hcell) ht (vp_in_nI hi hn) hd (fun H1 locs1 hP1 hD1 hS1 => ?_)
  rw [nI_clamp (by omega), hset] at hP1 hD1
  exact kk ls H1 locs1 hl hP1 hD1 hS1
theorem wr_ald (C : wc_C p s m args c cc nL own Γ A) {q n t0 i a : Nat} {f : Nat → Option Nat} {cA : ClassId} {E : String} (hq : q < 91) (hcell : wc_cell Γ σ μ q = .inl (cA, n, .inr (.inr (.inr (.inr f))))) (ht : (wc_tys Γ)[t0]? = some (cA, .object E)) (hi : i < n) (hn : n < 2 ^ 31) (hf : f i = some a) (hd : decode cc pc = .ok (.aaload, 1))
    (kk : wc_K p l e R s m args below meth c nL Γ A Q cells slots (pc + 1) (vs) (.ref a :: st) σ μ) : wc_K p l e R s m args below meth c nL Γ A Q cells slots (pc) (vs) (.int (nI i) :: .ref (Γ.2.2 q) :: st) σ μ := by
  intro ls H locs hl hP hD hS
  refine va_aldq C.1.1 C.1.2.1 C.2.1 hP q t0 (wc_at hq hcell) ht (vp_in_nI hi hn) hd ?_
  rw [nI_clamp (by omega), hf]
  exact kk ls H locs hl hP hD hS
theorem wr_alen (C : wc_C p s m args c cc nL own Γ A) {q t0 : Nat} {x : vp_A} {cA : ClassId} {ty : FieldType} (hq : q < 91) (hcell : wc_cell Γ σ μ q = .inl (cA, x)) (ht : (wc_tys Γ)[t0]? = some (cA, ty)) (hd : decode cc pc = .ok (.arraylength, 1))
    (kk : wc_K p l e R s m args below meth c nL Γ A Q cells slots (pc + 1) (vs) (.int (nI x.1) :: st) σ μ) : wc_K p l e R s m args below meth c nL Γ A Q cells slots (pc) (vs) (.ref (Γ.2.2 q) :: st) σ μ :=
  fun ls H locs hl hP hD hS => va_alen C.1.1 C.1.2.1 C.2.1 hP q t0 (wc_at hq hcell) ht rfl hd (kk ls H locs hl hP hD hS)
theorem wr_mmax (C : wc_C p s m args c cc nL own Γ A) {x y : Int32} {index : Nat} (hm : Cond.methodLink own index Lib.Math.max.name ∈ wc_tb) (hst : Cond.static Lib.Math.max.name ∈ wc_tb) (hi : Cond.initialized "java/lang/Math" ∈ wc_tb) (hco : Cond.code Lib.Math.max.name Lib.Math.max.code 2 (some .int) ∈ wc_tb) (hf : 1 ≤ R.frames) (hlo : 40 ≤ R.locals) (hsum : (st.map fun v => v.category).sum ≤ 8) (hcs : cells ≤ R.cells ∧ slots ≤ R.slots) (hd : decode cc pc = .ok (.invokestatic index, 3))
    (kk : wc_K p l e R s m args below meth c nL Γ A Q cells slots (pc + 3) (vs) (.int (wc_mx x y) :: st) σ μ) : wc_K p l e R s m args below meth c nL Γ A Q cells slots (pc) (vs) (.int y :: .int x :: st) σ μ :=
  fun ls H locs hl hP hD hS => va_mmax C.1.1 C.1.2.1 (C.1.2.2.1.trans hl.1.symm) C.1.2.2.2.1 (C.1.2.2.2.2 _ hm) (C.1.2.2.2.2 _ hst) (C.1.2.2.2.2 _ hi) (C.1.2.2.2.2 _ hco) hf (by omega) hcs.1 hcs.2 hd (kk ls H locs hl hP hD hS)
theorem wr_mmin (C : wc_C p s m args c cc nL own Γ A) {x y : Int32} {index : Nat} (hm : Cond.methodLink own index Lib.Math.min.name ∈ wc_tb) (hst : Cond.static Lib.Math.min.name ∈ wc_tb) (hi : Cond.initialized "java/lang/Math" ∈ wc_tb) (hco : Cond.code Lib.Math.min.name Lib.Math.min.code 2 (some .int) ∈ wc_tb) (hf : 1 ≤ R.frames) (hlo : 40 ≤ R.locals) (hsum : (st.map fun v => v.category).sum ≤ 8) (hcs : cells ≤ R.cells ∧ slots ≤ R.slots) (hd : decode cc pc = .ok (.invokestatic index, 3))
    (kk : wc_K p l e R s m args below meth c nL Γ A Q cells slots (pc + 3) (vs) (.int (wc_mn x y) :: st) σ μ) : wc_K p l e R s m args below meth c nL Γ A Q cells slots (pc) (vs) (.int y :: .int x :: st) σ μ :=
  fun ls H locs hl hP hD hS => va_mmin C.1.1 C.1.2.1 (C.1.2.2.1.trans hl.1.symm) C.1.2.2.2.1 (C.1.2.2.2.2 _ hm) (C.1.2.2.2.2 _ hst) (C.1.2.2.2.2 _ hi) (C.1.2.2.2.2 _ hco) hf (by omega) hcs.1 hcs.2 hd (kk ls H locs hl hP hD hS)
/-- a method's end: it answers v, the system is in the state σ' -/
def wc_Qw (Γ : wc_G) (A : Nat → Prop) (v : Option Value) (σ' μ' : wc_St) : Array Value → State → Outcome → State → Prop := fun _ st oc t => (oc = .returned v ∧ va_P Γ.1 vwCl (wc_wl Γ σ' μ') t.heap ∧ va_D A (wc_wl Γ σ' μ')) ∧ va_F A st t
def wc_Pre (Γ : wc_G) (σ μ : wc_St) (sz : Nat) (U : State) : Prop := U.heap.size = sz ∧ va_P Γ.1 vwCl (wc_wl Γ σ μ) U.heap ∧ va_K Γ.1 vwCl (wc_tys Γ) U ∧ va_D (fun _ => True) (wc_wl Γ σ μ) ∧ ∀ w ∈ wc_tb, va_Nw w U
abbrev wc_rm (d : Nat) : Room := { frames := d, cells := 0, slots := 0, locals := 40 * d }
/-- a method's contract: called with av in the state σ it answers v, and the state is σ' -/
def wc_M (l : Launch) (y : MethodName) (cc : ByteArray) (maxL : Nat) (ret : Option FieldType) (d : Nat) (Γ : wc_G) (av : List Value) (σ μ : wc_St) (v : Option Value) (σ' μ' : wc_St) : Prop :=
  ∀ sz : Nat, Met l y [Cond.code y cc maxL ret] (wc_rm d) (va_Pc av (wc_Pre Γ σ μ sz)) (wc_Qw Γ (va_A (wc_wl Γ σ μ) sz) v σ' μ') 0 0 (va_A (wc_wl Γ σ μ) sz)
abbrev wc_E (s : State) (below : List Frame) (args : Array Value) (Γ : wc_G) (σ μ : wc_St) (v : Option Value) (σ' μ' : wc_St) : State → Prop :=
  MQ below (wc_Qw Γ (va_A (wc_wl Γ σ μ) s.heap.size) v σ' μ') args s 0 0 (va_A (wc_wl Γ σ μ) s.heap.size)
theorem wc_enter {y : MethodName} (own : String) {maxL : Nat} {ret : Option FieldType} {d : Nat} {av : List Value} {v : Option Value} {σ' μ' : wc_St} (hy : plainName y.cls = true) (ho : y.cls = own) (hlen : (lg_sl av).length ≤ maxL)
    (body : ∀ (p : Program) (e : Env) (s : State) (m : MethodId) (args : Array Value) (below : List Frame) (meth : Method) (c : Code), wc_C p s m args c cc maxL own Γ (va_A (wc_wl Γ σ μ) s.heap.size) → meth.sig.returnType = ret → meth.locks = false →
      wc_K p l e (wc_rm d) s m args below meth c maxL Γ (va_A (wc_wl Γ σ μ) s.heap.size) (wc_E s below args Γ σ μ v σ' μ') 0 0 0 (lv_args 0 av) [] σ μ) : wc_M l y cc maxL ret d Γ av σ μ v σ' μ' := by
  intro sz
  refine Met.ofW (cc := cc) (maxL := maxL) (ret := ret) hy rfl ?_
  intro p e s m args below meth c s₁ B hml hv
  obtain ⟨rfl, hsz, hP, hK, hD0, hN⟩ := hv
  subst hsz
  have hown : s.vm.findClass own = some m.cls := ho ▸ findClass_of_methodNamed B.named
  rw [lg_entry_eq]
  exact body p e s m _ below meth c ⟨⟨B.exec, B.bytes, hml, hown, fun w hw => va_Nw.use (wc_tb_on w hw) (hN w hw)⟩, hK, fun q h => Or.inr h⟩ B.returns B.notSynchronized _ _ _ (lv_entry av hlen) hP hD0.self va_S.rf
theorem wr_iret (C : wc_C p s m args c cc nL own Γ A) {x : Int32} {ty : FieldType} (hr : meth.sig.returnType = some ty) (hn : narrow ty (.int x) = .int x) {v : Option Value} {σ' μ' : wc_St} (hlk : meth.locks = false) (hd : decode cc pc = .ok (.ireturn, 1)) (hv : some (.int x) = v) (hσ : σ = σ') (hμ : μ = μ') :
    wc_K p l e R s m args below meth c nL Γ A (MQ below (wc_Qw Γ A v σ' μ') args s cells slots A) cells slots pc vs [.int x] σ μ := by
  subst hv; subst hσ; subst hμ
  exact fun ls H locs hl hP hD hS => W.zret C.1.1 C.1.2.1 hr hn (fun t ht _ => ⟨⟨rfl, by rw [ht]; exact hP, hD⟩, hS.F ht⟩) hS.2.2 hd hlk
theorem wr_lret (C : wc_C p s m args c cc nL own Γ A) {x : Int64} (hr : meth.sig.returnType = some .long) {v : Option Value} {σ' μ' : wc_St} (hlk : meth.locks = false) (hd : decode cc pc = .ok (.lreturn, 1)) (hv : some (.long x) = v) (hσ : σ = σ') (hμ : μ = μ') :
    wc_K p l e R s m args below meth c nL Γ A (MQ below (wc_Qw Γ A v σ' μ') args s cells slots A) cells slots pc vs [.long x] σ μ := by
  subst hv; subst hσ; subst hμ
  exact fun ls H locs hl hP hD hS => W.lret C.1.1 C.1.2.1 hr (fun t ht _ => ⟨⟨rfl, by rw [ht]; exact hP, hD⟩, hS.F ht⟩) hS.2.2 hd hlk
theorem wr_vret (C : wc_C p s m args c cc nL own Γ A) (hr : meth.sig.returnType = none) {v : Option Value} {σ' μ' : wc_St} (hlk : meth.locks = false) (hd : decode cc pc = .ok (.return_, 1)) (hv : none = v) (hσ : σ = σ') (hμ : μ = μ') :
    wc_K p l e R s m args below meth c nL Γ A (MQ below (wc_Qw Γ A v σ' μ') args s cells slots A) cells slots pc vs [] σ μ := by
  subst hv; subst hσ; subst hμ
  exact fun ls H locs hl hP hD hS => W.vret C.1.1 C.1.2.1 hr (fun t ht _ => ⟨⟨rfl, by rw [ht]; exact hP, hD⟩, hS.F ht⟩) hS.2.2 hd hlk
theorem wr_aret (C : wc_C p s m args c cc nL own Γ A) {x : Value} {n : String} (hr : meth.sig.returnType = some (.object n)) (hx : x = .null ∨ ∃ a, x = .ref a) {v : Option Value} {σ' μ' : wc_St} (hlk : meth.locks = false) (hd : decode cc pc = .ok (.areturn, 1)) (hv : some x = v) (hσ : σ = σ') (hμ : μ = μ') :
    wc_K p l e R s m args below meth c nL Γ A (MQ below (wc_Qw Γ A v σ' μ') args s cells slots A) cells slots pc vs [x] σ μ := by
  subst hv; subst hσ; subst hμ
  exact fun ls H locs hl hP hD hS => W.aret C.1.1 C.1.2.1 hr (Or.inl ⟨_, rfl⟩) hx (fun t ht _ => ⟨⟨rfl, by rw [ht]; exact hP, hD⟩, hS.F ht⟩) hS.2.2 hd hlk
theorem wc_blind {av : List Value} {sz : Nat} : FrameBlind (va_Pc av (wc_Pre Γ σ μ sz)) := fun a U g mk q => by
  obtain ⟨q0, q1, qP, qK, qD, qN⟩ := q
  exact ⟨q0, q1, qP, va_K.moved (u := U) (U := U.calling g mk a) (Vm.Alike.refl U.vm) qK, qD, fun w hw => va_Nw.same (u := U) (U := U.calling g mk a) (wc_tb_on w hw) rfl (qN w hw)⟩
theorem wc_pre {av : List Value} {H : Heap} (hts : ∀ w ∈ wc_tb, w.before args s = true) (hK : va_K Γ.1 vwCl (wc_tys Γ) s) (hP : va_P Γ.1 vwCl (wc_wl Γ σ μ) H) (hD : va_D A (wc_wl Γ σ μ)) : ∀ U : State, U.heap = H → s.WarmedH U.vm → va_Pc av (wc_Pre Γ σ μ H.size) av.toArray U := fun U hU hW =>
  ⟨rfl, by rw [hU], by rw [hU]; exact hP, va_K.moved hW.alike hK, hD.weaken (fun _ _ _ _ => trivial), wc_tb_warm hW hts⟩
theorem wc_back {H : Heap} {locs : List Loc} {ls : Array Slot} {st0 rest : List Value} {v : Option Value} {σ' μ' : wc_St} {a : Array Value} (C : wc_C p s m args c cc nL own Γ A) (hl : lv_has ls nL vs) (hD : va_D A (wc_wl Γ σ μ)) (hS : va_S A s.heap H locs)
    (hr : va_Run p l e R s m args below meth c H locs cells slots 0 0 (F0 m pc ls st0) rest (wc_Qw Γ (va_A (wc_wl Γ σ μ) H.size) v σ' μ' a) (va_A (wc_wl Γ σ μ) H.size))
    (kk : wc_K p l e R s m args below meth c nL Γ A Q cells slots (pc + 3) (vs) (v.toList ++ rest) σ' μ') : W p l e R s m args below meth c H locs cells slots Q (F0 m pc ls st0) := by
  intro T hT X
  obtain ⟨v', st₀, t, T', L, h0, X', hL, e1, e2, ⟨⟨hv, hP1, hD1⟩, hz, hk⟩, stp⟩ := hr T hT X
  cases hv
  have hin : ∀ q, va_A (wc_wl Γ σ μ) H.size q → A q := by
    intro q h
    rcases h with ⟨k, e, h⟩ | h
    · exact hD.2 k (q, e) h
    · exact C.2.2 q (Nat.le_trans hS.1 h)
  rw [h0] at hz hk
  obtain ⟨t2, a1, b1⟩ := kk ls T'.heap (locs ++ L) hl (by rw [e1]; exact hP1) (hD1.weaken (fun k q _ h => hin q.1 h))
    ⟨Nat.le_trans hS.1 (by rw [e1]; exact hz), fun q h1 h2 => by rw [e1, hk q (Nat.lt_of_lt_of_le h1 hS.1) (fun z => h2 (hin q z))]; exact hS.2.1 q h1 h2, fun q hq => by
      rcases List.mem_append.mp hq with h | h
      · exact hS.2.2 q h
      · exact hin _ (hL q h)⟩ T' rfl X'
  exact ⟨t2, stp t2 a1, b1⟩
/-- what a call asks of the tables: the callee's code, its class, its descriptor -/
def wc_cb (y : MethodName) (bytes : ByteArray) (maxL : Nat) (ret : Option FieldType) (n : Nat) : Prop :=
  Cond.code y bytes maxL ret ∈ wc_tb ∧ Cond.initialized y.cls ∈ wc_tb ∧ y.cls ≠ "java/lang/invoke/MethodHandle" ∧ y.cls ≠ "java/lang/invoke/VarHandle" ∧ (parseMethodDescriptor y.desc).map (fun d => d.parameters.length) = some n
def wc_ml (own : String) (index : Nat) (y : MethodName) : Prop := Cond.methodLink own index y ∈ wc_tb ∨ ∃ host, Cond.methodLinkNest own index y host ∈ wc_tb
theorem wc_good {y : MethodName} {bytes : ByteArray} {maxL : Nat} {ret : Option FieldType} (h : Cond.code y bytes maxL ret ∈ wc_tb) : GoodIn wc_tb [Cond.code y bytes maxL ret] := fun w hw => by
  rw [List.mem_singleton] at hw
  subst hw
  exact ⟨h, Or.inl rfl⟩
theorem wr_callS (C : wc_C p s m args c cc nL own Γ A) {y : MethodName} {bytes : ByteArray} {maxL n index d : Nat} {ret : Option FieldType} {v : Option Value} {σ' μ' : wc_St} {As rest : List Value} (hM : wc_M l y bytes maxL ret d Γ As σ μ v σ' μ') (hcb : wc_cb y bytes maxL ret n) (hml : wc_ml own index y) (hstt : Cond.static y ∈ wc_tb) (hR : d + 1 ≤ R.frames ∧ 40 * (d + 1) ≤ R.locals) (hmx : maxL ≤ 21) (hn : As.length = n) (hst : st = As.reverse ++ rest) (hsum : (rest.map fun v => v.category).sum ≤ 8) (hcs : cells ≤ R.cells ∧ slots ≤ R.slots) (hd : decode cc pc = .ok (.invokestatic index, 3))
    (kk : wc_K p l e R s m args below meth c nL Γ A Q cells slots (pc + 3) (vs) (v.toList ++ rest) σ' μ') : wc_K p l e R s m args below meth c nL Γ A Q cells slots (pc) (vs) (st) σ μ := by
  intro ls H locs hl hP hD hS
  obtain ⟨h1, h2, h3, h4, h5⟩ := hcb
  have hRm : (wc_rm d).frames + 1 ≤ R.frames ∧ 8 + (maxL + 11) + (wc_rm d).locals ≤ R.locals := ⟨hR.1, by show 8 + (maxL + 11) + 40 * d ≤ R.locals; omega⟩
  have hp : PreS s H (va_Pc As (wc_Pre Γ σ μ H.size)) As := ⟨wc_blind, wc_pre C.1.2.2.2.2 C.2.1 hP hD⟩
  rcases hml with hm | ⟨host, hm⟩
  · exact wc_back C hl hD hS (va_runS C.1 (hM H.size) ⟨callB_of n C.1.2.2.2.2 (wc_good h1) rfl rfl rfl (C.1.2.2.2.2 _ h2) (C.1.2.2.2.2 _ hm) ⟨h3, h4, h5⟩ hRm, C.1.2.2.2.2 _ hstt⟩ hp rfl hn hl.1 hst (lv_room hsum) hd hcs) kk
  · exact wc_back C hl hD hS (va_runSN C.1 (hM H.size) ⟨va_cnB n C.1.2.2.2.2 (wc_good h1) rfl rfl rfl (va_Nw.of rfl (C.1.2.2.2.2 _ hm)) (C.1.2.2.2.2 _ h2) ⟨h3, h4, h5⟩ hRm, C.1.2.2.2.2 _ hstt, trivial⟩ hp rfl hn hl.1 hst (lv_room hsum) hd hcs) kk
theorem wr_callV (C : wc_C p s m args c cc nL own Γ A) {y : MethodName} {bytes : ByteArray} {maxL n index d : Nat} {ret : Option FieldType} {v : Option Value} {σ' μ' : wc_St} {As rest : List Value} {q ci N : Nat} {fs : List Value} {Cn : String} {T : u_T} (hM : wc_M l y bytes maxL ret d Γ (.ref (Γ.2.2 q) :: As) σ μ v σ' μ') (hcb : wc_cb y bytes maxL ret n) (hml : wc_ml own index y) (hins : Cond.instanceMethod y ∈ wc_tb) (hsel : Cond.selects Cn y y ∈ wc_tb) (hq : q < 91) (hcell : wc_cell Γ σ μ q = .inr (ci, fs)) (hc : vwCl[ci]? = some (Cn, T, N)) (hR : d + 1 ≤ R.frames ∧ 40 * (d + 1) ≤ R.locals) (hmx : maxL ≤ 21) (hn : As.length = n) (hst : st = As.reverse ++ .ref (Γ.2.2 q) :: rest) (hsum : (rest.map fun v => v.category).sum ≤ 8) (hcs : cells ≤ R.cells ∧ slots ≤ R.slots) (hd : decode cc pc = .ok (.invokevirtual index, 3))
    (kk : wc_K p l e R s m args below meth c nL Γ A Q cells slots (pc + 3) (vs) (v.toList ++ rest) σ' μ') : wc_K p l e R s m args below meth c nL Γ A Q cells slots (pc) (vs) (st) σ μ := by
  intro ls H locs hl hP hD hS
  obtain ⟨h1, h2, h3, h4, h5⟩ := hcb
  have hRm : (wc_rm d).frames + 1 ≤ R.frames ∧ 8 + (maxL + 11) + (wc_rm d).locals ≤ R.locals := ⟨hR.1, by show 8 + (maxL + 11) + 40 * d ≤ R.locals; omega⟩
  have hp : PreV s H Cn (Γ.2.2 q) (va_Pc (.ref (Γ.2.2 q) :: As) (wc_Pre Γ σ μ H.size)) As := ⟨wc_blind, va_recv C.2.1 hP hc (wc_at hq hcell), wc_pre C.1.2.2.2.2 C.2.1 hP hD⟩
  rcases hml with hm | ⟨host, hm⟩
  · exact wc_back C hl hD hS (va_runV C.1 (hM H.size) ⟨callB_of n C.1.2.2.2.2 (wc_good h1) rfl rfl rfl (C.1.2.2.2.2 _ h2) (C.1.2.2.2.2 _ hm) ⟨h3, h4, h5⟩ hRm, C.1.2.2.2.2 _ hins, C.1.2.2.2.2 _ hsel⟩ hp rfl hn hl.1 hst (lv_room hsum) hd hcs) kk
  · exact wc_back C hl hD hS (va_runVN C.1 (hM H.size) ⟨va_cnB n C.1.2.2.2.2 (wc_good h1) rfl rfl rfl (va_Nw.of rfl (C.1.2.2.2.2 _ hm)) (C.1.2.2.2.2 _ h2) ⟨h3, h4, h5⟩ hRm, C.1.2.2.2.2 _ hins, C.1.2.2.2.2 _ hsel⟩ hp rfl hn hl.1 hst (lv_room hsum) hd hcs) kk
theorem wr_callS0 (C : wc_C p s m args c cc nL own Γ A) {y : MethodName} {bytes : ByteArray} {maxL n index d : Nat} {ret : Option FieldType} {σ' μ' : wc_St} {As rest : List Value} (hM : wc_M l y bytes maxL ret d Γ As σ μ none σ' μ') (hcb : wc_cb y bytes maxL ret n) (hml : wc_ml own index y) (hstt : Cond.static y ∈ wc_tb) (hR : d + 1 ≤ R.frames ∧ 40 * (d + 1) ≤ R.locals) (hmx : maxL ≤ 21) (hn : As.length = n) (hst : st = As.reverse ++ rest) (hsum : (rest.map fun v => v.category).sum ≤ 8) (hcs : cells ≤ R.cells ∧ slots ≤ R.slots) (hd : decode cc pc = .ok (.invokestatic index, 3))
    (kk : wc_K p l e R s m args below meth c nL Γ A Q cells slots (pc + 3) (vs) (rest) σ' μ') : wc_K p l e R s m args below meth c nL Γ A Q cells slots (pc) (vs) (st) σ μ := wr_callS C hM hcb hml hstt hR hmx hn hst hsum hcs hd kk
theorem wr_callV0 (C : wc_C p s m args c cc nL own Γ A) {y : MethodName} {bytes : ByteArray} {maxL n index d : Nat} {ret : Option FieldType} {σ' μ' : wc_St} {As rest : List Value} {q ci N : Nat} {fs : List Value} {Cn : String} {T : u_T} (hM : wc_M l y bytes maxL ret d Γ (.ref (Γ.2.2 q) :: As) σ μ none σ' μ') (hcb : wc_cb y bytes maxL ret n) (hml : wc_ml own index y) (hins : Cond.instanceMethod y ∈ wc_tb) (hsel : Cond.selects Cn y y ∈ wc_tb) (hq : q < 91) (hcell : wc_cell Γ σ μ q = .inr (ci, fs)) (hc : vwCl[ci]? = some (Cn, T, N)) (hR : d + 1 ≤ R.frames ∧ 40 * (d + 1) ≤ R.locals) (hmx : maxL ≤ 21) (hn : As.length = n) (hst : st = As.reverse ++ .ref (Γ.2.2 q) :: rest) (hsum : (rest.map fun v => v.category).sum ≤ 8) (hcs : cells ≤ R.cells ∧ slots ≤ R.slots) (hd : decode cc pc = .ok (.invokevirtual index, 3))
    (kk : wc_K p l e R s m args below meth c nL Γ A Q cells slots (pc + 3) (vs) (rest) σ' μ') : wc_K p l e R s m args below meth c nL Γ A Q cells slots (pc) (vs) (st) σ μ := wr_callV C hM hcb hml hins hsel hq hcell hc hR hmx hn hst hsum hcs hd kk
theorem wr_callS1 (C : wc_C p s m args c cc nL own Γ A) {y : MethodName} {bytes : ByteArray} {maxL n index d : Nat} {ret : Option FieldType} {σ' μ' : wc_St} {As rest : List Value} {x : Value} (hM : wc_M l y bytes maxL ret d Γ As σ μ (some x) σ' μ') (hcb : wc_cb y bytes maxL ret n) (hml : wc_ml own index y) (hstt : Cond.static y ∈ wc_tb) (hR : d + 1 ≤ R.frames ∧ 40 * (d + 1) ≤ R.locals) (hmx : maxL ≤ 21) (hn : As.length = n) (hst : st = As.reverse ++ rest) (hsum : (rest.map fun v => v.category).sum ≤ 8) (hcs : cells ≤ R.cells ∧ slots ≤ R.slots) (hd : decode cc pc = .ok (.invokestatic index, 3))
    (kk : wc_K p l e R s m args below meth c nL Γ A Q cells slots (pc + 3) (vs) (x :: rest) σ' μ') : wc_K p l e R s m args below meth c nL Γ A Q cells slots (pc) (vs) (st) σ μ := wr_callS C hM hcb hml hstt hR hmx hn hst hsum hcs hd kk
theorem wr_callV1 (C : wc_C p s m args c cc nL own Γ A) {y : MethodName} {bytes : ByteArray} {maxL n index d : Nat} {ret : Option FieldType} {σ' μ' : wc_St} {As rest : List Value} {x : Value} {q ci N : Nat} {fs : List Value} {Cn : String} {T : u_T} (hM : wc_M l y bytes maxL ret d Γ (.ref (Γ.2.2 q) :: As) σ μ (some x) σ' μ') (hcb : wc_cb y bytes maxL ret n) (hml : wc_ml own index y) (hins : Cond.instanceMethod y ∈ wc_tb) (hsel : Cond.selects Cn y y ∈ wc_tb) (hq : q < 91) (hcell : wc_cell Γ σ μ q = .inr (ci, fs)) (hc : vwCl[ci]? = some (Cn, T, N)) (hR : d + 1 ≤ R.frames ∧ 40 * (d + 1) ≤ R.locals) (hmx : maxL ≤ 21) (hn : As.length = n) (hst : st = As.reverse ++ .ref (Γ.2.2 q) :: rest) (hsum : (rest.map fun v => v.category).sum ≤ 8) (hcs : cells ≤ R.cells ∧ slots ≤ R.slots) (hd : decode cc pc = .ok (.invokevirtual index, 3))
    (kk : wc_K p l e R s m args below meth c nL Γ A Q cells slots (pc + 3) (vs) (x :: rest) σ' μ') : wc_K p l e R s m args below meth c nL Γ A Q cells slots (pc) (vs) (st) σ μ := wr_callV C hM hcb hml hins hsel hq hcell hc hR hmx hn hst hsum hcs hd kk
theorem wr_acmpI_ne (C : wc_C p s m args c cc nL own Γ A) {x y : Nat} {off : Int} {tgt : Nat} (hx : x < 91) (hy : y < 91) (hd : decode cc pc = .ok (.if_acmp .ne off, 3)) (ht : (pc : Int) + off = (tgt : Int)) (kt : ¬ x = y → wc_K p l e R s m args below meth c nL Γ A Q cells slots (tgt) (vs) (st) σ μ) (kf : x = y → wc_K p l e R s m args below meth c nL Γ A Q cells slots (pc + 3) (vs) (st) σ μ) : wc_K p l e R s m args below meth c nL Γ A Q cells slots (pc) (vs) (.ref (Γ.2.2 y) :: .ref (Γ.2.2 x) :: st) σ μ :=
  fun ls H locs hl hP hD hS => wr_acmp_ne C hd ht (fun h => kt (fun q => h (by rw [q]))) (fun h => kf (wc_inj hD hx hy h)) ls H locs hl hP hD hS
theorem wr_acmpI_eq (C : wc_C p s m args c cc nL own Γ A) {x y : Nat} {off : Int} {tgt : Nat} (hx : x < 91) (hy : y < 91) (hd : decode cc pc = .ok (.if_acmp .eq off, 3)) (ht : (pc : Int) + off = (tgt : Int)) (kt : x = y → wc_K p l e R s m args below meth c nL Γ A Q cells slots (tgt) (vs) (st) σ μ) (kf : ¬ x = y → wc_K p l e R s m args below meth c nL Γ A Q cells slots (pc + 3) (vs) (st) σ μ) : wc_K p l e R s m args below meth c nL Γ A Q cells slots (pc) (vs) (.ref (Γ.2.2 y) :: .ref (Γ.2.2 x) :: st) σ μ :=
  fun ls H locs hl hP hD hS => wr_acmp_eq C hd ht (fun h => kt (wc_inj hD hx hy h)) (fun h => kf (fun q => h (by rw [q]))) ls H locs hl hP hD hS
end WCK
end
section
theorem wl_W : ∀ w ∈ u_ws RW TW 9, w ∈ wc_tb := by decide +kernel
theorem wl_S : ∀ w ∈ u_ws RS TS 5, w ∈ wc_tb := by decide +kernel
theorem wl_K : ∀ w ∈ u_ws RK TK 3, w ∈ wc_tb := by decide +kernel
theorem wl_T : ∀ w ∈ u_ws RT TT 10, w ∈ wc_tb := by decide +kernel
theorem wl_G : ∀ w ∈ u_ws RG TG 6, w ∈ wc_tb := by decide +kernel
theorem wl_M : ∀ w ∈ u_ws RM TM 25, w ∈ wc_tb := by decide +kernel
theorem cb_W_init : wc_cb yW_init cW_init 4 none 1 := ⟨tw_12, tw_1, by decide, by decide, by decide +kernel⟩
theorem cb_W_clock : wc_cb yW_clock cW_clock 4 (some .boolean) 3 := ⟨tw_139, tw_1, by decide, by decide, by decide +kernel⟩
theorem cb_W_delay : wc_cb yW_delay cW_delay 3 (some .boolean) 2 := ⟨tw_149, tw_1, by decide, by decide, by decide +kernel⟩
theorem cb_W_power : wc_cb yW_power cW_power 3 (some .boolean) 2 := ⟨tw_153, tw_1, by decide, by decide, by decide +kernel⟩
theorem cb_W_begin : wc_cb yW_begin cW_begin 2 (some .boolean) 1 := ⟨tw_157, tw_1, by decide, by decide, by decide +kernel⟩
theorem cb_W_read : wc_cb yW_read cW_read 3 (some .long) 2 := ⟨tw_173, tw_1, by decide, by decide, by decide +kernel⟩
theorem cb_W_write : wc_cb yW_write cW_write 4 (some .boolean) 3 := ⟨tw_202, tw_1, by decide, by decide, by decide +kernel⟩
theorem cb_W_commit : wc_cb yW_commit cW_commit 3 (some .boolean) 1 := ⟨tw_206, tw_1, by decide, by decide, by decide +kernel⟩
theorem cb_W_abort : wc_cb yW_abort cW_abort 2 (some .boolean) 1 := ⟨tw_230, tw_1, by decide, by decide, by decide +kernel⟩
theorem cb_W_readAt : wc_cb yW_readAt cW_readAt 3 (some .long) 2 := ⟨tw_234, tw_1, by decide, by decide, by decide +kernel⟩
theorem cb_W_step : wc_cb yW_step cW_step 4 (some .int) 1 := ⟨tw_253, tw_1, by decide, by decide, by decide +kernel⟩
theorem cb_W_now : wc_cb yW_now cW_now 1 (some .int) 0 := ⟨tw_298, tw_1, by decide, by decide, by decide +kernel⟩
theorem cb_W_state : wc_cb yW_state cW_state 2 (some .int) 1 := ⟨tw_302, tw_1, by decide, by decide, by decide +kernel⟩
theorem cb_W_stamp : wc_cb yW_stamp cW_stamp 3 (some .int) 1 := ⟨tw_306, tw_1, by decide, by decide, by decide +kernel⟩
theorem cb_W_end : wc_cb yW_end cW_end 2 (some .int) 1 := ⟨tw_311, tw_1, by decide, by decide, by decide +kernel⟩
theorem cb_W_marks : wc_cb yW_marks cW_marks 4 (some .int) 1 := ⟨tw_315, tw_1, by decide, by decide, by decide +kernel⟩
theorem cb_W_safe : wc_cb yW_safe cW_safe 2 (some .int) 1 := ⟨tw_319, tw_1, by decide, by decide, by decide +kernel⟩
theorem cb_W_bound : wc_cb yW_bound cW_bound 2 (some .int) 1 := ⟨tw_323, tw_1, by decide, by decide, by decide +kernel⟩
theorem cb_W_holders : wc_cb yW_holders cW_holders 4 (some .int) 1 := ⟨tw_327, tw_1, by decide, by decide, by decide +kernel⟩
theorem cb_W_version : wc_cb yW_version cW_version 3 (some .int) 2 := ⟨tw_331, tw_1, by decide, by decide, by decide +kernel⟩
theorem cb_W_messages : wc_cb yW_messages cW_messages 1 (some .int) 0 := ⟨tw_335, tw_1, by decide, by decide, by decide +kernel⟩
theorem cb_W_isSite : wc_cb yW_isSite cW_isSite 1 (some .boolean) 1 := ⟨tw_142, tw_1, by decide, by decide, by decide +kernel⟩
theorem cb_W_isKey : wc_cb yW_isKey cW_isKey 1 (some .boolean) 1 := ⟨tw_179, tw_1, by decide, by decide, by decide +kernel⟩
theorem cb_W_isTransaction : wc_cb yW_isTransaction cW_isTransaction 1 (some .boolean) 1 := ⟨tw_160, tw_1, by decide, by decide, by decide +kernel⟩
theorem cb_W_siteOf : wc_cb yW_siteOf cW_siteOf 1 (some .int) 1 := ⟨tw_185, tw_1, by decide, by decide, by decide +kernel⟩
theorem cb_W_canBegin : wc_cb yW_canBegin cW_canBegin 2 (some .boolean) 1 := ⟨tw_163, tw_1, by decide, by decide, by decide +kernel⟩
theorem cb_W_isError : wc_cb yW_isError cW_isError 2 (some .boolean) 1 := ⟨tw_145, tw_1, by decide, by decide, by decide +kernel⟩
theorem cb_W_isActive : wc_cb yW_isActive cW_isActive 2 (some .boolean) 1 := ⟨tw_176, tw_1, by decide, by decide, by decide +kernel⟩
theorem cb_W_latest : wc_cb yW_latest cW_latest 2 (some .int) 1 := ⟨tw_212, tw_1, by decide, by decide, by decide +kernel⟩
theorem cb_W_earliest : wc_cb yW_earliest cW_earliest 2 (some .int) 1 := ⟨tw_291, tw_1, by decide, by decide, by decide +kernel⟩
theorem cb_W_leastMark : wc_cb yW_leastMark cW_leastMark 4 (some .int) 1 := ⟨tw_240, tw_1, by decide, by decide, by decide +kernel⟩
theorem cb_W_greatestReadyTime : wc_cb yW_greatestReadyTime cW_greatestReadyTime 2 (some .int) 1 := ⟨tw_237, tw_1, by decide, by decide, by decide +kernel⟩
theorem cb_W_lock : wc_cb yW_lock cW_lock 5 (some .boolean) 3 := ⟨tw_182, tw_1, by decide, by decide, by decide +kernel⟩
theorem cb_W_conflicts : wc_cb yW_conflicts cW_conflicts 4 (some .boolean) 4 := ⟨tw_188, tw_1, by decide, by decide, by decide +kernel⟩
theorem cb_W_canPushAside : wc_cb yW_canPushAside cW_canPushAside 2 (some .boolean) 2 := ⟨tw_191, tw_1, by decide, by decide, by decide +kernel⟩
theorem cb_W_prepare : wc_cb yW_prepare cW_prepare 3 none 1 := ⟨tw_209, tw_1, by decide, by decide, by decide +kernel⟩
theorem cb_W_sendToOthers : wc_cb yW_sendToOthers cW_sendToOthers 6 (some .int) 2 := ⟨tw_215, tw_1, by decide, by decide, by decide +kernel⟩
theorem cb_W_send : wc_cb yW_send cW_send 6 none 3 := ⟨tw_219, tw_1, by decide, by decide, by decide +kernel⟩
theorem cb_W_deliverMessages : wc_cb yW_deliverMessages cW_deliverMessages 3 none 0 := ⟨tw_256, tw_1, by decide, by decide, by decide +kernel⟩
theorem cb_W_firstDue : wc_cb yW_firstDue cW_firstDue 3 (some (.object "WaitedCommits$Message")) 0 := ⟨tw_259, tw_1, by decide, by decide, by decide +kernel⟩
theorem cb_W_isDue : wc_cb yW_isDue cW_isDue 2 (some .boolean) 1 := ⟨tw_262, tw_1, by decide, by decide, by decide +kernel⟩
theorem cb_W_dealWith : wc_cb yW_dealWith cW_dealWith 3 none 1 := ⟨tw_268, tw_1, by decide, by decide, by decide +kernel⟩
theorem cb_W_takePrepare : wc_cb yW_takePrepare cW_takePrepare 4 none 2 := ⟨tw_271, tw_1, by decide, by decide, by decide +kernel⟩
theorem cb_W_takePrepared : wc_cb yW_takePrepared cW_takePrepared 2 none 1 := ⟨tw_274, tw_1, by decide, by decide, by decide +kernel⟩
theorem cb_W_chooseStamp : wc_cb yW_chooseStamp cW_chooseStamp 3 none 1 := ⟨tw_222, tw_1, by decide, by decide, by decide +kernel⟩
theorem cb_W_endWaiting : wc_cb yW_endWaiting cW_endWaiting 3 (some .int) 0 := ⟨tw_285, tw_1, by decide, by decide, by decide +kernel⟩
theorem cb_W_mayEnd : wc_cb yW_mayEnd cW_mayEnd 2 (some .boolean) 1 := ⟨tw_288, tw_1, by decide, by decide, by decide +kernel⟩
theorem cb_W_endOne : wc_cb yW_endOne cW_endOne 3 none 1 := ⟨tw_294, tw_1, by decide, by decide, by decide +kernel⟩
theorem cb_W_finishAt : wc_cb yW_finishAt cW_finishAt 4 none 2 := ⟨tw_277, tw_1, by decide, by decide, by decide +kernel⟩
theorem cb_S_init : wc_cb yS_init cS_init 2 none 1 := ⟨tw_29, tw_3, by decide, by decide, by decide +kernel⟩
theorem cb_S_raiseBound : wc_cb yS_raiseBound cS_raiseBound 2 none 1 := ⟨tw_244, tw_3, by decide, by decide, by decide +kernel⟩
theorem cb_K_init : wc_cb yK_init cK_init 1 none 0 := ⟨tw_49, tw_4, by decide, by decide, by decide +kernel⟩
theorem cb_K_add : wc_cb yK_add cK_add 4 none 2 := ⟨tw_280, tw_4, by decide, by decide, by decide +kernel⟩
theorem cb_K_valueAt : wc_cb yK_valueAt cK_valueAt 3 (some .long) 1 := ⟨tw_248, tw_4, by decide, by decide, by decide +kernel⟩
theorem cb_T_init : wc_cb yT_init cT_init 1 none 0 := ⟨tw_63, tw_5, by decide, by decide, by decide +kernel⟩
theorem cb_T_holdsAt : wc_cb yT_holdsAt cT_holdsAt 3 (some .boolean) 1 := ⟨tw_169, tw_5, by decide, by decide, by decide +kernel⟩
theorem cb_T_leastParticipant : wc_cb yT_leastParticipant cT_leastParticipant 2 (some .int) 0 := ⟨tw_166, tw_5, by decide, by decide, by decide +kernel⟩
theorem cb_T_unlockAt : wc_cb yT_unlockAt cT_unlockAt 3 none 1 := ⟨tw_197, tw_5, by decide, by decide, by decide +kernel⟩
theorem cb_T_giveUp : wc_cb yT_giveUp cT_giveUp 2 none 0 := ⟨tw_194, tw_5, by decide, by decide, by decide +kernel⟩
theorem cb_T_greatestMark : wc_cb yT_greatestMark cT_greatestMark 3 (some .int) 0 := ⟨tw_225, tw_5, by decide, by decide, by decide +kernel⟩
theorem cb_G_init : wc_cb yG_init cG_init 3 none 2 := ⟨tw_98, tw_6, by decide, by decide, by decide +kernel⟩
theorem cb_G_comesBefore : wc_cb yG_comesBefore cG_comesBefore 2 (some .boolean) 1 := ⟨tw_265, tw_6, by decide, by decide, by decide +kernel⟩
theorem cb_M_init : wc_cb yM_init cM_init 3 none 1 := ⟨tw_343, tw_7, by decide, by decide, by decide +kernel⟩
theorem cb_M_in : wc_cb yM_in cM_in 2 (some .boolean) 2 := ⟨tw_401, tw_7, by decide, by decide, by decide +kernel⟩
theorem cb_M_clock : wc_cb yM_clock cM_clock 4 (some .boolean) 3 := ⟨tw_398, tw_7, by decide, by decide, by decide +kernel⟩
theorem cb_M_delay : wc_cb yM_delay cM_delay 3 (some .boolean) 2 := ⟨tw_405, tw_7, by decide, by decide, by decide +kernel⟩
theorem cb_M_power : wc_cb yM_power cM_power 3 (some .boolean) 2 := ⟨tw_409, tw_7, by decide, by decide, by decide +kernel⟩
theorem cb_M_raise : wc_cb yM_raise cM_raise 3 none 2 := ⟨tw_482, tw_7, by decide, by decide, by decide +kernel⟩
theorem cb_M_active : wc_cb yM_active cM_active 2 (some .boolean) 1 := ⟨tw_429, tw_7, by decide, by decide, by decide +kernel⟩
theorem cb_M_takesPart : wc_cb yM_takesPart cM_takesPart 3 (some .boolean) 2 := ⟨tw_419, tw_7, by decide, by decide, by decide +kernel⟩
theorem cb_M_least : wc_cb yM_least cM_least 2 (some .int) 1 := ⟨tw_416, tw_7, by decide, by decide, by decide +kernel⟩
theorem cb_M_forget : wc_cb yM_forget cM_forget 3 none 1 := ⟨tw_422, tw_7, by decide, by decide, by decide +kernel⟩
theorem cb_M_begin : wc_cb yM_begin cM_begin 2 (some .boolean) 1 := ⟨tw_413, tw_7, by decide, by decide, by decide +kernel⟩
theorem cb_M_conflicts : wc_cb yM_conflicts cM_conflicts 5 (some .boolean) 4 := ⟨tw_435, tw_7, by decide, by decide, by decide +kernel⟩
theorem cb_M_take : wc_cb yM_take cM_take 5 (some .boolean) 3 := ⟨tw_432, tw_7, by decide, by decide, by decide +kernel⟩
theorem cb_M_drop : wc_cb yM_drop cM_drop 2 none 1 := ⟨tw_438, tw_7, by decide, by decide, by decide +kernel⟩
theorem cb_M_read : wc_cb yM_read cM_read 4 (some .long) 2 := ⟨tw_426, tw_7, by decide, by decide, by decide +kernel⟩
theorem cb_M_write : wc_cb yM_write cM_write 4 (some .boolean) 3 := ⟨tw_446, tw_7, by decide, by decide, by decide +kernel⟩
theorem cb_M_abort : wc_cb yM_abort cM_abort 2 (some .boolean) 1 := ⟨tw_450, tw_7, by decide, by decide, by decide +kernel⟩
theorem cb_M_send : wc_cb yM_send cM_send 6 none 4 := ⟨tw_460, tw_7, by decide, by decide, by decide +kernel⟩
theorem cb_M_sendAll : wc_cb yM_sendAll cM_sendAll 5 none 3 := ⟨tw_457, tw_7, by decide, by decide, by decide +kernel⟩
theorem cb_M_commit : wc_cb yM_commit cM_commit 4 (some .boolean) 1 := ⟨tw_454, tw_7, by decide, by decide, by decide +kernel⟩
theorem cb_M_stampIfAll : wc_cb yM_stampIfAll cM_stampIfAll 6 none 1 := ⟨tw_463, tw_7, by decide, by decide, by decide +kernel⟩
theorem cb_M_put : wc_cb yM_put cM_put 4 none 3 := ⟨tw_466, tw_7, by decide, by decide, by decide +kernel⟩
theorem cb_M_deal : wc_cb yM_deal cM_deal 7 none 1 := ⟨tw_476, tw_7, by decide, by decide, by decide +kernel⟩
theorem cb_M_finish : wc_cb yM_finish cM_finish 4 none 2 := ⟨tw_479, tw_7, by decide, by decide, by decide +kernel⟩
theorem cb_M_next : wc_cb yM_next cM_next 6 (some .int) 0 := ⟨tw_473, tw_7, by decide, by decide, by decide +kernel⟩
theorem cb_M_step : wc_cb yM_step cM_step 7 (some .int) 1 := ⟨tw_470, tw_7, by decide, by decide, by decide +kernel⟩
theorem cb_M_find : wc_cb yM_find cM_find 5 (some .int) 2 := ⟨tw_442, tw_7, by decide, by decide, by decide +kernel⟩
theorem cb_M_version : wc_cb yM_version cM_version 4 (some .int) 2 := ⟨tw_486, tw_7, by decide, by decide, by decide +kernel⟩
theorem cb_M_readAt : wc_cb yM_readAt cM_readAt 5 (some .long) 2 := ⟨tw_490, tw_7, by decide, by decide, by decide +kernel⟩
theorem cb_M_now : wc_cb yM_now cM_now 1 (some .int) 0 := ⟨tw_499, tw_7, by decide, by decide, by decide +kernel⟩
theorem cb_M_state : wc_cb yM_state cM_state 2 (some .int) 1 := ⟨tw_503, tw_7, by decide, by decide, by decide +kernel⟩
theorem cb_M_stamp : wc_cb yM_stamp cM_stamp 2 (some .int) 1 := ⟨tw_507, tw_7, by decide, by decide, by decide +kernel⟩
theorem cb_M_end : wc_cb yM_end cM_end 2 (some .int) 1 := ⟨tw_511, tw_7, by decide, by decide, by decide +kernel⟩
theorem cb_M_marks : wc_cb yM_marks cM_marks 5 (some .int) 1 := ⟨tw_515, tw_7, by decide, by decide, by decide +kernel⟩
theorem cb_M_safe : wc_cb yM_safe cM_safe 4 (some .int) 1 := ⟨tw_494, tw_7, by decide, by decide, by decide +kernel⟩
theorem cb_M_bound : wc_cb yM_bound cM_bound 2 (some .int) 1 := ⟨tw_520, tw_7, by decide, by decide, by decide +kernel⟩
theorem cb_M_holders : wc_cb yM_holders cM_holders 4 (some .int) 1 := ⟨tw_524, tw_7, by decide, by decide, by decide +kernel⟩
theorem cb_M_messages : wc_cb yM_messages cM_messages 3 (some .int) 0 := ⟨tw_528, tw_7, by decide, by decide, by decide +kernel⟩
theorem cb_L_cell : wc_cb yL_cell cL_cell 2 (some .int) 2 := ⟨tw_338, tw_0, by decide, by decide, by decide +kernel⟩
section WCF
variable {p : Program} {l : Launch} {e : Env} {R : Room} {s : State} {m : MethodId} {args : Array Value} {below : List Frame} {meth : Method} {c : Code} {cells slots : Nat} {Q : State → Prop} {nL : Nat} {Γ : wc_G} {A : Nat → Prop}
variable {cc : ByteArray} {own : String} {pc : Nat} {vs : List (Nat × Value)} {st : List Value} {σ μ : wc_St}
theorem wf_WC_greatestError (C : wc_C p s m args c cc nL own Γ A) {index : Nat} (hlk : wc_lk own index (TW 0)) (hd : decode cc pc = .ok (.getfield index, 3)) (kk : wc_K p l e R s m args below meth c nL Γ A Q cells slots (pc + 3) vs (.int (σ 22 0 0) :: st) σ μ) : wc_K p l e R s m args below meth c nL Γ A Q cells slots (pc) vs (.ref (Γ.2.2 (0)) :: st) σ μ :=
  wr_get C (by omega) (wc_c_WC) rfl (by decide) wl_W hlk rfl hd kk
theorem wf_WC_sites (C : wc_C p s m args c cc nL own Γ A) {index : Nat} (hlk : wc_lk own index (TW 1)) (hd : decode cc pc = .ok (.getfield index, 3)) (kk : wc_K p l e R s m args below meth c nL Γ A Q cells slots (pc + 3) vs (.ref (Γ.2.2 1) :: st) σ μ) : wc_K p l e R s m args below meth c nL Γ A Q cells slots (pc) vs (.ref (Γ.2.2 (0)) :: st) σ μ :=
  wr_get C (by omega) (wc_c_WC) rfl (by decide) wl_W hlk rfl hd kk
theorem wf_WC_keys (C : wc_C p s m args c cc nL own Γ A) {index : Nat} (hlk : wc_lk own index (TW 2)) (hd : decode cc pc = .ok (.getfield index, 3)) (kk : wc_K p l e R s m args below meth c nL Γ A Q cells slots (pc + 3) vs (.ref (Γ.2.2 2) :: st) σ μ) : wc_K p l e R s m args below meth c nL Γ A Q cells slots (pc) vs (.ref (Γ.2.2 (0)) :: st) σ μ :=
  wr_get C (by omega) (wc_c_WC) rfl (by decide) wl_W hlk rfl hd kk
theorem wf_WC_transactions (C : wc_C p s m args c cc nL own Γ A) {index : Nat} (hlk : wc_lk own index (TW 3)) (hd : decode cc pc = .ok (.getfield index, 3)) (kk : wc_K p l e R s m args below meth c nL Γ A Q cells slots (pc + 3) vs (.ref (Γ.2.2 3) :: st) σ μ) : wc_K p l e R s m args below meth c nL Γ A Q cells slots (pc) vs (.ref (Γ.2.2 (0)) :: st) σ μ :=
  wr_get C (by omega) (wc_c_WC) rfl (by decide) wl_W hlk rfl hd kk
theorem wf_WC_slots (C : wc_C p s m args c cc nL own Γ A) {index : Nat} (hlk : wc_lk own index (TW 4)) (hd : decode cc pc = .ok (.getfield index, 3)) (kk : wc_K p l e R s m args below meth c nL Γ A Q cells slots (pc + 3) vs (.ref (Γ.2.2 4) :: st) σ μ) : wc_K p l e R s m args below meth c nL Γ A Q cells slots (pc) vs (.ref (Γ.2.2 (0)) :: st) σ μ :=
  wr_get C (by omega) (wc_c_WC) rfl (by decide) wl_W hlk rfl hd kk
theorem wf_WC_time (C : wc_C p s m args c cc nL own Γ A) {index : Nat} (hlk : wc_lk own index (TW 5)) (hd : decode cc pc = .ok (.getfield index, 3)) (kk : wc_K p l e R s m args below meth c nL Γ A Q cells slots (pc + 3) vs (.int (σ 23 0 0) :: st) σ μ) : wc_K p l e R s m args below meth c nL Γ A Q cells slots (pc) vs (.ref (Γ.2.2 (0)) :: st) σ μ :=
  wr_get C (by omega) (wc_c_WC) rfl (by decide) wl_W hlk rfl hd kk
theorem wp_WC_time (C : wc_C p s m args c cc nL own Γ A) {index : Nat} {x : Int32} (hlk : wc_lk own index (TW 5)) (hd : decode cc pc = .ok (.putfield index, 3)) (kk : wc_K p l e R s m args below meth c nL Γ A Q cells slots (pc + 3) vs (st) (wc_st σ 23 0 0 x) μ) : wc_K p l e R s m args below meth c nL Γ A Q cells slots (pc) vs (.int x :: .ref (Γ.2.2 (0)) :: st) σ μ :=
  wr_put C (ty := .int) (by omega) (wc_c_WC) rfl (by decide) wl_W tyW tyW_ok nmW rfl (by decide +kernel) (Nat.le_of_ble_eq_true rfl) (wc_set (wc_put_WC_time) (fun j hj => wc_o_TIM hj)) hlk rfl rfl hd kk
theorem wf_WC_begun (C : wc_C p s m args c cc nL own Γ A) {index : Nat} (hlk : wc_lk own index (TW 6)) (hd : decode cc pc = .ok (.getfield index, 3)) (kk : wc_K p l e R s m args below meth c nL Γ A Q cells slots (pc + 3) vs (.int (σ 24 0 0) :: st) σ μ) : wc_K p l e R s m args below meth c nL Γ A Q cells slots (pc) vs (.ref (Γ.2.2 (0)) :: st) σ μ :=
  wr_get C (by omega) (wc_c_WC) rfl (by decide) wl_W hlk rfl hd kk
theorem wp_WC_begun (C : wc_C p s m args c cc nL own Γ A) {index : Nat} {x : Int32} (hlk : wc_lk own index (TW 6)) (hd : decode cc pc = .ok (.putfield index, 3)) (kk : wc_K p l e R s m args below meth c nL Γ A Q cells slots (pc + 3) vs (st) (wc_st σ 24 0 0 x) μ) : wc_K p l e R s m args below meth c nL Γ A Q cells slots (pc) vs (.int x :: .ref (Γ.2.2 (0)) :: st) σ μ :=
  wr_put C (ty := .int) (by omega) (wc_c_WC) rfl (by decide) wl_W tyW tyW_ok nmW rfl (by decide +kernel) (Nat.le_of_ble_eq_true rfl) (wc_set (wc_put_WC_begun) (fun j hj => wc_o_BEG hj)) hlk rfl rfl hd kk
theorem wf_WC_sent (C : wc_C p s m args c cc nL own Γ A) {index : Nat} (hlk : wc_lk own index (TW 7)) (hd : decode cc pc = .ok (.getfield index, 3)) (kk : wc_K p l e R s m args below meth c nL Γ A Q cells slots (pc + 3) vs (.int (σ 25 0 0) :: st) σ μ) : wc_K p l e R s m args below meth c nL Γ A Q cells slots (pc) vs (.ref (Γ.2.2 (0)) :: st) σ μ :=
  wr_get C (by omega) (wc_c_WC) rfl (by decide) wl_W hlk rfl hd kk
theorem wp_WC_sent (C : wc_C p s m args c cc nL own Γ A) {index : Nat} {x : Int32} (hlk : wc_lk own index (TW 7)) (hd : decode cc pc = .ok (.putfield index, 3)) (kk : wc_K p l e R s m args below meth c nL Γ A Q cells slots (pc + 3) vs (st) (wc_st σ 25 0 0 x) μ) : wc_K p l e R s m args below meth c nL Γ A Q cells slots (pc) vs (.int x :: .ref (Γ.2.2 (0)) :: st) σ μ :=
  wr_put C (ty := .int) (by omega) (wc_c_WC) rfl (by decide) wl_W tyW tyW_ok nmW rfl (by decide +kernel) (Nat.le_of_ble_eq_true rfl) (wc_set (wc_put_WC_sent) (fun j hj => wc_o_SNT hj)) hlk rfl rfl hd kk
theorem wf_WC_underWay (C : wc_C p s m args c cc nL own Γ A) {index : Nat} (hlk : wc_lk own index (TW 8)) (hd : decode cc pc = .ok (.getfield index, 3)) (kk : wc_K p l e R s m args below meth c nL Γ A Q cells slots (pc + 3) vs (.int (σ 26 0 0) :: st) σ μ) : wc_K p l e R s m args below meth c nL Γ A Q cells slots (pc) vs (.ref (Γ.2.2 (0)) :: st) σ μ :=
  wr_get C (by omega) (wc_c_WC) rfl (by decide) wl_W hlk rfl hd kk
theorem wp_WC_underWay (C : wc_C p s m args c cc nL own Γ A) {index : Nat} {x : Int32} (hlk : wc_lk own index (TW 8)) (hd : decode cc pc = .ok (.putfield index, 3)) (kk : wc_K p l e R s m args below meth c nL Γ A Q cells slots (pc + 3) vs (st) (wc_st σ 26 0 0 x) μ) : wc_K p l e R s m args below meth c nL Γ A Q cells slots (pc) vs (.int x :: .ref (Γ.2.2 (0)) :: st) σ μ :=
  wr_put C (ty := .int) (by omega) (wc_c_WC) rfl (by decide) wl_W tyW tyW_ok nmW rfl (by decide +kernel) (Nat.le_of_ble_eq_true rfl) (wc_set (wc_put_WC_underWay) (fun j hj => wc_o_UWY hj)) hlk rfl rfl hd kk
theorem wa_sites (C : wc_C p s m args c cc nL own Γ A) {j : Nat} (hj : j < 3) (hd : decode cc pc = .ok (.aaload, 1)) (kk : wc_K p l e R s m args below meth c nL Γ A Q cells slots (pc + 1) vs (.ref (Γ.2.2 (5 + j)) :: st) σ μ) : wc_K p l e R s m args below meth c nL Γ A Q cells slots (pc) vs (.int (nI j) :: .ref (Γ.2.2 (1)) :: st) σ μ :=
  wr_ald C (by omega) wc_c_sites (t0 := 2) rfl hj (by decide) rfl hd kk
theorem wn_sites (C : wc_C p s m args c cc nL own Γ A) (hd : decode cc pc = .ok (.arraylength, 1)) (kk : wc_K p l e R s m args below meth c nL Γ A Q cells slots (pc + 1) vs (.int (nI 3) :: st) σ μ) : wc_K p l e R s m args below meth c nL Γ A Q cells slots (pc) vs (.ref (Γ.2.2 (1)) :: st) σ μ :=
  wr_alen C (by omega) wc_c_sites (t0 := 2) rfl hd kk
theorem wa_keys (C : wc_C p s m args c cc nL own Γ A) {j : Nat} (hj : j < 9) (hd : decode cc pc = .ok (.aaload, 1)) (kk : wc_K p l e R s m args below meth c nL Γ A Q cells slots (pc + 1) vs (.ref (Γ.2.2 (8 + j)) :: st) σ μ) : wc_K p l e R s m args below meth c nL Γ A Q cells slots (pc) vs (.int (nI j) :: .ref (Γ.2.2 (2)) :: st) σ μ :=
  wr_ald C (by omega) wc_c_keys (t0 := 3) rfl hj (by decide) rfl hd kk
theorem wn_keys (C : wc_C p s m args c cc nL own Γ A) (hd : decode cc pc = .ok (.arraylength, 1)) (kk : wc_K p l e R s m args below meth c nL Γ A Q cells slots (pc + 1) vs (.int (nI 9) :: st) σ μ) : wc_K p l e R s m args below meth c nL Γ A Q cells slots (pc) vs (.ref (Γ.2.2 (2)) :: st) σ μ :=
  wr_alen C (by omega) wc_c_keys (t0 := 3) rfl hd kk
theorem wa_txs (C : wc_C p s m args c cc nL own Γ A) {j : Nat} (hj : j < 5) (hd : decode cc pc = .ok (.aaload, 1)) (kk : wc_K p l e R s m args below meth c nL Γ A Q cells slots (pc + 1) vs (.ref (Γ.2.2 (35 + j)) :: st) σ μ) : wc_K p l e R s m args below meth c nL Γ A Q cells slots (pc) vs (.int (nI j) :: .ref (Γ.2.2 (3)) :: st) σ μ :=
  wr_ald C (by omega) wc_c_txs (t0 := 4) rfl hj (by decide) rfl hd kk
theorem wn_txs (C : wc_C p s m args c cc nL own Γ A) (hd : decode cc pc = .ok (.arraylength, 1)) (kk : wc_K p l e R s m args below meth c nL Γ A Q cells slots (pc + 1) vs (.int (nI 5) :: st) σ μ) : wc_K p l e R s m args below meth c nL Γ A Q cells slots (pc) vs (.ref (Γ.2.2 (3)) :: st) σ μ :=
  wr_alen C (by omega) wc_c_txs (t0 := 4) rfl hd kk
theorem wa_slots (C : wc_C p s m args c cc nL own Γ A) {j : Nat} (hj : j < 15) (hd : decode cc pc = .ok (.aaload, 1)) (kk : wc_K p l e R s m args below meth c nL Γ A Q cells slots (pc + 1) vs (.ref (Γ.2.2 (55 + j)) :: st) σ μ) : wc_K p l e R s m args below meth c nL Γ A Q cells slots (pc) vs (.int (nI j) :: .ref (Γ.2.2 (4)) :: st) σ μ :=
  wr_ald C (by omega) wc_c_slots (t0 := 5) rfl hj (by decide) rfl hd kk
theorem wn_slots (C : wc_C p s m args c cc nL own Γ A) (hd : decode cc pc = .ok (.arraylength, 1)) (kk : wc_K p l e R s m args below meth c nL Γ A Q cells slots (pc + 1) vs (.int (nI 15) :: st) σ μ) : wc_K p l e R s m args below meth c nL Γ A Q cells slots (pc) vs (.ref (Γ.2.2 (4)) :: st) σ μ :=
  wr_alen C (by omega) wc_c_slots (t0 := 5) rfl hd kk
theorem wf_Site_before (C : wc_C p s m args c cc nL own Γ A) {i : Nat} (h : i < 3) {index : Nat} (hlk : wc_lk own index (TS 0)) (hd : decode cc pc = .ok (.getfield index, 3)) (kk : wc_K p l e R s m args below meth c nL Γ A Q cells slots (pc + 3) vs (.int (σ 0 i 0) :: st) σ μ) : wc_K p l e R s m args below meth c nL Γ A Q cells slots (pc) vs (.ref (Γ.2.2 (5 + i)) :: st) σ μ :=
  wr_get C (by omega) (wc_c_Site h) rfl (by decide) wl_S hlk rfl hd kk
theorem wp_Site_before (C : wc_C p s m args c cc nL own Γ A) {i : Nat} (h : i < 3) {index : Nat} {x : Int32} (hlk : wc_lk own index (TS 0)) (hd : decode cc pc = .ok (.putfield index, 3)) (kk : wc_K p l e R s m args below meth c nL Γ A Q cells slots (pc + 3) vs (st) (wc_st σ 0 i 0 x) μ) : wc_K p l e R s m args below meth c nL Γ A Q cells slots (pc) vs (.int x :: .ref (Γ.2.2 (5 + i)) :: st) σ μ :=
  wr_put C (ty := .int) (by omega) (wc_c_Site h) rfl (by decide) wl_S tyS tyS_ok nmS rfl (by decide +kernel) (Nat.le_of_ble_eq_true rfl) (wc_set (wc_put_Site_before h) (fun j hj => wc_o_BEF hj)) hlk rfl rfl hd kk
theorem wf_Site_after (C : wc_C p s m args c cc nL own Γ A) {i : Nat} (h : i < 3) {index : Nat} (hlk : wc_lk own index (TS 1)) (hd : decode cc pc = .ok (.getfield index, 3)) (kk : wc_K p l e R s m args below meth c nL Γ A Q cells slots (pc + 3) vs (.int (σ 1 i 0) :: st) σ μ) : wc_K p l e R s m args below meth c nL Γ A Q cells slots (pc) vs (.ref (Γ.2.2 (5 + i)) :: st) σ μ :=
  wr_get C (by omega) (wc_c_Site h) rfl (by decide) wl_S hlk rfl hd kk
theorem wp_Site_after (C : wc_C p s m args c cc nL own Γ A) {i : Nat} (h : i < 3) {index : Nat} {x : Int32} (hlk : wc_lk own index (TS 1)) (hd : decode cc pc = .ok (.putfield index, 3)) (kk : wc_K p l e R s m args below meth c nL Γ A Q cells slots (pc + 3) vs (st) (wc_st σ 1 i 0 x) μ) : wc_K p l e R s m args below meth c nL Γ A Q cells slots (pc) vs (.int x :: .ref (Γ.2.2 (5 + i)) :: st) σ μ :=
  wr_put C (ty := .int) (by omega) (wc_c_Site h) rfl (by decide) wl_S tyS tyS_ok nmS rfl (by decide +kernel) (Nat.le_of_ble_eq_true rfl) (wc_set (wc_put_Site_after h) (fun j hj => wc_o_AFT hj)) hlk rfl rfl hd kk
theorem wf_Site_delay (C : wc_C p s m args c cc nL own Γ A) {i : Nat} (h : i < 3) {index : Nat} (hlk : wc_lk own index (TS 2)) (hd : decode cc pc = .ok (.getfield index, 3)) (kk : wc_K p l e R s m args below meth c nL Γ A Q cells slots (pc + 3) vs (.int (σ 2 i 0) :: st) σ μ) : wc_K p l e R s m args below meth c nL Γ A Q cells slots (pc) vs (.ref (Γ.2.2 (5 + i)) :: st) σ μ :=
  wr_get C (by omega) (wc_c_Site h) rfl (by decide) wl_S hlk rfl hd kk
theorem wp_Site_delay (C : wc_C p s m args c cc nL own Γ A) {i : Nat} (h : i < 3) {index : Nat} {x : Int32} (hlk : wc_lk own index (TS 2)) (hd : decode cc pc = .ok (.putfield index, 3)) (kk : wc_K p l e R s m args below meth c nL Γ A Q cells slots (pc + 3) vs (st) (wc_st σ 2 i 0 x) μ) : wc_K p l e R s m args below meth c nL Γ A Q cells slots (pc) vs (.int x :: .ref (Γ.2.2 (5 + i)) :: st) σ μ :=
  wr_put C (ty := .int) (by omega) (wc_c_Site h) rfl (by decide) wl_S tyS tyS_ok nmS rfl (by decide +kernel) (Nat.le_of_ble_eq_true rfl) (wc_set (wc_put_Site_delay h) (fun j hj => wc_o_DLY hj)) hlk rfl rfl hd kk
theorem wf_Site_isUp (C : wc_C p s m args c cc nL own Γ A) {i : Nat} (h : i < 3) {index : Nat} (hlk : wc_lk own index (TS 3)) (hd : decode cc pc = .ok (.getfield index, 3)) (kk : wc_K p l e R s m args below meth c nL Γ A Q cells slots (pc + 3) vs (.int (σ 3 i 0) :: st) σ μ) : wc_K p l e R s m args below meth c nL Γ A Q cells slots (pc) vs (.ref (Γ.2.2 (5 + i)) :: st) σ μ :=
  wr_get C (by omega) (wc_c_Site h) rfl (by decide) wl_S hlk rfl hd kk
theorem wp_Site_isUp (C : wc_C p s m args c cc nL own Γ A) {i : Nat} (h : i < 3) {index : Nat} {x : Int32} (hn : narrow .boolean (.int x) = .int x) (hf : fits .boolean (.int x) = true) (hlk : wc_lk own index (TS 3)) (hd : decode cc pc = .ok (.putfield index, 3)) (kk : wc_K p l e R s m args below meth c nL Γ A Q cells slots (pc + 3) vs (st) (wc_st σ 3 i 0 x) μ) : wc_K p l e R s m args below meth c nL Γ A Q cells slots (pc) vs (.int x :: .ref (Γ.2.2 (5 + i)) :: st) σ μ :=
  wr_put C (ty := .boolean) (by omega) (wc_c_Site h) rfl (by decide) wl_S tyS tyS_ok nmS rfl (by decide +kernel) (Nat.le_of_ble_eq_true rfl) (wc_set (wc_put_Site_isUp h) (fun j hj => wc_o_UP hj)) hlk hn hf hd kk
theorem wf_Site_bound (C : wc_C p s m args c cc nL own Γ A) {i : Nat} (h : i < 3) {index : Nat} (hlk : wc_lk own index (TS 4)) (hd : decode cc pc = .ok (.getfield index, 3)) (kk : wc_K p l e R s m args below meth c nL Γ A Q cells slots (pc + 3) vs (.int (σ 4 i 0) :: st) σ μ) : wc_K p l e R s m args below meth c nL Γ A Q cells slots (pc) vs (.ref (Γ.2.2 (5 + i)) :: st) σ μ :=
  wr_get C (by omega) (wc_c_Site h) rfl (by decide) wl_S hlk rfl hd kk
theorem wp_Site_bound (C : wc_C p s m args c cc nL own Γ A) {i : Nat} (h : i < 3) {index : Nat} {x : Int32} (hlk : wc_lk own index (TS 4)) (hd : decode cc pc = .ok (.putfield index, 3)) (kk : wc_K p l e R s m args below meth c nL Γ A Q cells slots (pc + 3) vs (st) (wc_st σ 4 i 0 x) μ) : wc_K p l e R s m args below meth c nL Γ A Q cells slots (pc) vs (.int x :: .ref (Γ.2.2 (5 + i)) :: st) σ μ :=
  wr_put C (ty := .int) (by omega) (wc_c_Site h) rfl (by decide) wl_S tyS tyS_ok nmS rfl (by decide +kernel) (Nat.le_of_ble_eq_true rfl) (wc_set (wc_put_Site_bound h) (fun j hj => wc_o_BND hj)) hlk rfl rfl hd kk
theorem wf_Key_values (C : wc_C p s m args c cc nL own Γ A) {i : Nat} (h : i < 9) {index : Nat} (hlk : wc_lk own index (TK 0)) (hd : decode cc pc = .ok (.getfield index, 3)) (kk : wc_K p l e R s m args below meth c nL Γ A Q cells slots (pc + 3) vs (.ref (Γ.2.2 (17 + i)) :: st) σ μ) : wc_K p l e R s m args below meth c nL Γ A Q cells slots (pc) vs (.ref (Γ.2.2 (8 + i)) :: st) σ μ :=
  wr_get C (by omega) (wc_c_Key h) rfl (by decide) wl_K hlk rfl hd kk
theorem wf_Key_stamps (C : wc_C p s m args c cc nL own Γ A) {i : Nat} (h : i < 9) {index : Nat} (hlk : wc_lk own index (TK 1)) (hd : decode cc pc = .ok (.getfield index, 3)) (kk : wc_K p l e R s m args below meth c nL Γ A Q cells slots (pc + 3) vs (.ref (Γ.2.2 (26 + i)) :: st) σ μ) : wc_K p l e R s m args below meth c nL Γ A Q cells slots (pc) vs (.ref (Γ.2.2 (8 + i)) :: st) σ μ :=
  wr_get C (by omega) (wc_c_Key h) rfl (by decide) wl_K hlk rfl hd kk
theorem wf_Key_count (C : wc_C p s m args c cc nL own Γ A) {i : Nat} (h : i < 9) {index : Nat} (hlk : wc_lk own index (TK 2)) (hd : decode cc pc = .ok (.getfield index, 3)) (kk : wc_K p l e R s m args below meth c nL Γ A Q cells slots (pc + 3) vs (.int (σ 5 i 0) :: st) σ μ) : wc_K p l e R s m args below meth c nL Γ A Q cells slots (pc) vs (.ref (Γ.2.2 (8 + i)) :: st) σ μ :=
  wr_get C (by omega) (wc_c_Key h) rfl (by decide) wl_K hlk rfl hd kk
theorem wp_Key_count (C : wc_C p s m args c cc nL own Γ A) {i : Nat} (h : i < 9) {index : Nat} {x : Int32} (hlk : wc_lk own index (TK 2)) (hd : decode cc pc = .ok (.putfield index, 3)) (kk : wc_K p l e R s m args below meth c nL Γ A Q cells slots (pc + 3) vs (st) (wc_st σ 5 i 0 x) μ) : wc_K p l e R s m args below meth c nL Γ A Q cells slots (pc) vs (.int x :: .ref (Γ.2.2 (8 + i)) :: st) σ μ :=
  wr_put C (ty := .int) (by omega) (wc_c_Key h) rfl (by decide) wl_K tyK tyK_ok nmK rfl (by decide +kernel) (Nat.le_of_ble_eq_true rfl) (wc_set (wc_put_Key_count h) (fun j hj => wc_o_CNT hj)) hlk rfl rfl hd kk
theorem wa_values (C : wc_C p s m args c cc nL own Γ A) {i : Nat} (h : i < 9) {j : Nat} (hj : j < 4) (hd : decode cc pc = .ok (.iaload, 1)) (kk : wc_K p l e R s m args below meth c nL Γ A Q cells slots (pc + 1) vs (.int (σ 6 i j) :: st) σ μ) : wc_K p l e R s m args below meth c nL Γ A Q cells slots (pc) vs (.int (nI j) :: .ref (Γ.2.2 (17 + i)) :: st) σ μ :=
  wr_ild C (by omega) (wc_c_values h) (t0 := 0) rfl hj (by decide) hd kk
theorem ws_values (C : wc_C p s m args c cc nL own Γ A) {i : Nat} (h : i < 9) {j : Nat} {x : Int32} (hj : j < 4) (hd : decode cc pc = .ok (.iastore, 1)) (kk : wc_K p l e R s m args below meth c nL Γ A Q cells slots (pc + 1) vs (st) (wc_st σ 6 i j x) μ) : wc_K p l e R s m args below meth c nL Γ A Q cells slots (pc) vs (.int x :: .int (nI j) :: .ref (Γ.2.2 (17 + i)) :: st) σ μ :=
  wr_ist C (by omega) (wc_c_values h) (t0 := 0) rfl hj (by decide) (wc_set (by rw [wc_c_values h, wc_st_at]) (fun j hj => wc_o_VAL hj)) hd kk
theorem wa_stamps (C : wc_C p s m args c cc nL own Γ A) {i : Nat} (h : i < 9) {j : Nat} (hj : j < 4) (hd : decode cc pc = .ok (.iaload, 1)) (kk : wc_K p l e R s m args below meth c nL Γ A Q cells slots (pc + 1) vs (.int (σ 7 i j) :: st) σ μ) : wc_K p l e R s m args below meth c nL Γ A Q cells slots (pc) vs (.int (nI j) :: .ref (Γ.2.2 (26 + i)) :: st) σ μ :=
  wr_ild C (by omega) (wc_c_stamps h) (t0 := 0) rfl hj (by decide) hd kk
theorem ws_stamps (C : wc_C p s m args c cc nL own Γ A) {i : Nat} (h : i < 9) {j : Nat} {x : Int32} (hj : j < 4) (hd : decode cc pc = .ok (.iastore, 1)) (kk : wc_K p l e R s m args below meth c nL Γ A Q cells slots (pc + 1) vs (st) (wc_st σ 7 i j x) μ) : wc_K p l e R s m args below meth c nL Γ A Q cells slots (pc) vs (.int x :: .int (nI j) :: .ref (Γ.2.2 (26 + i)) :: st) σ μ :=
  wr_ist C (by omega) (wc_c_stamps h) (t0 := 0) rfl hj (by decide) (wc_set (by rw [wc_c_stamps h, wc_st_at]) (fun j hj => wc_o_STP hj)) hd kk
theorem wf_Tx_state (C : wc_C p s m args c cc nL own Γ A) {i : Nat} (h : i < 5) {index : Nat} (hlk : wc_lk own index (TT 0)) (hd : decode cc pc = .ok (.getfield index, 3)) (kk : wc_K p l e R s m args below meth c nL Γ A Q cells slots (pc + 3) vs (.int (σ 8 i 0) :: st) σ μ) : wc_K p l e R s m args below meth c nL Γ A Q cells slots (pc) vs (.ref (Γ.2.2 (35 + i)) :: st) σ μ :=
  wr_get C (by omega) (wc_c_Tx h) rfl (by decide) wl_T hlk rfl hd kk
theorem wp_Tx_state (C : wc_C p s m args c cc nL own Γ A) {i : Nat} (h : i < 5) {index : Nat} {x : Int32} (hlk : wc_lk own index (TT 0)) (hd : decode cc pc = .ok (.putfield index, 3)) (kk : wc_K p l e R s m args below meth c nL Γ A Q cells slots (pc + 3) vs (st) (wc_st σ 8 i 0 x) μ) : wc_K p l e R s m args below meth c nL Γ A Q cells slots (pc) vs (.int x :: .ref (Γ.2.2 (35 + i)) :: st) σ μ :=
  wr_put C (ty := .int) (by omega) (wc_c_Tx h) rfl (by decide) wl_T tyT tyT_ok nmT rfl (by decide +kernel) (Nat.le_of_ble_eq_true rfl) (wc_set (wc_put_Tx_state h) (fun j hj => wc_o_STA hj)) hlk rfl rfl hd kk
theorem wf_Tx_birth (C : wc_C p s m args c cc nL own Γ A) {i : Nat} (h : i < 5) {index : Nat} (hlk : wc_lk own index (TT 1)) (hd : decode cc pc = .ok (.getfield index, 3)) (kk : wc_K p l e R s m args below meth c nL Γ A Q cells slots (pc + 3) vs (.int (σ 9 i 0) :: st) σ μ) : wc_K p l e R s m args below meth c nL Γ A Q cells slots (pc) vs (.ref (Γ.2.2 (35 + i)) :: st) σ μ :=
  wr_get C (by omega) (wc_c_Tx h) rfl (by decide) wl_T hlk rfl hd kk
theorem wp_Tx_birth (C : wc_C p s m args c cc nL own Γ A) {i : Nat} (h : i < 5) {index : Nat} {x : Int32} (hlk : wc_lk own index (TT 1)) (hd : decode cc pc = .ok (.putfield index, 3)) (kk : wc_K p l e R s m args below meth c nL Γ A Q cells slots (pc + 3) vs (st) (wc_st σ 9 i 0 x) μ) : wc_K p l e R s m args below meth c nL Γ A Q cells slots (pc) vs (.int x :: .ref (Γ.2.2 (35 + i)) :: st) σ μ :=
  wr_put C (ty := .int) (by omega) (wc_c_Tx h) rfl (by decide) wl_T tyT tyT_ok nmT rfl (by decide +kernel) (Nat.le_of_ble_eq_true rfl) (wc_set (wc_put_Tx_birth h) (fun j hj => wc_o_BIR hj)) hlk rfl rfl hd kk
theorem wf_Tx_coordinator (C : wc_C p s m args c cc nL own Γ A) {i : Nat} (h : i < 5) {index : Nat} (hlk : wc_lk own index (TT 2)) (hd : decode cc pc = .ok (.getfield index, 3)) (kk : wc_K p l e R s m args below meth c nL Γ A Q cells slots (pc + 3) vs (.int (σ 10 i 0) :: st) σ μ) : wc_K p l e R s m args below meth c nL Γ A Q cells slots (pc) vs (.ref (Γ.2.2 (35 + i)) :: st) σ μ :=
  wr_get C (by omega) (wc_c_Tx h) rfl (by decide) wl_T hlk rfl hd kk
theorem wp_Tx_coordinator (C : wc_C p s m args c cc nL own Γ A) {i : Nat} (h : i < 5) {index : Nat} {x : Int32} (hlk : wc_lk own index (TT 2)) (hd : decode cc pc = .ok (.putfield index, 3)) (kk : wc_K p l e R s m args below meth c nL Γ A Q cells slots (pc + 3) vs (st) (wc_st σ 10 i 0 x) μ) : wc_K p l e R s m args below meth c nL Γ A Q cells slots (pc) vs (.int x :: .ref (Γ.2.2 (35 + i)) :: st) σ μ :=
  wr_put C (ty := .int) (by omega) (wc_c_Tx h) rfl (by decide) wl_T tyT tyT_ok nmT rfl (by decide +kernel) (Nat.le_of_ble_eq_true rfl) (wc_set (wc_put_Tx_coordinator h) (fun j hj => wc_o_CRD hj)) hlk rfl rfl hd kk
theorem wf_Tx_floor (C : wc_C p s m args c cc nL own Γ A) {i : Nat} (h : i < 5) {index : Nat} (hlk : wc_lk own index (TT 3)) (hd : decode cc pc = .ok (.getfield index, 3)) (kk : wc_K p l e R s m args below meth c nL Γ A Q cells slots (pc + 3) vs (.int (σ 11 i 0) :: st) σ μ) : wc_K p l e R s m args below meth c nL Γ A Q cells slots (pc) vs (.ref (Γ.2.2 (35 + i)) :: st) σ μ :=
  wr_get C (by omega) (wc_c_Tx h) rfl (by decide) wl_T hlk rfl hd kk
theorem wp_Tx_floor (C : wc_C p s m args c cc nL own Γ A) {i : Nat} (h : i < 5) {index : Nat} {x : Int32} (hlk : wc_lk own index (TT 3)) (hd : decode cc pc = .ok (.putfield index, 3)) (kk : wc_K p l e R s m args below meth c nL Γ A Q cells slots (pc + 3) vs (st) (wc_st σ 11 i 0 x) μ) : wc_K p l e R s m args below meth c nL Γ A Q cells slots (pc) vs (.int x :: .ref (Γ.2.2 (35 + i)) :: st) σ μ :=
  wr_put C (ty := .int) (by omega) (wc_c_Tx h) rfl (by decide) wl_T tyT tyT_ok nmT rfl (by decide +kernel) (Nat.le_of_ble_eq_true rfl) (wc_set (wc_put_Tx_floor h) (fun j hj => wc_o_FLR hj)) hlk rfl rfl hd kk
theorem wf_Tx_awaited (C : wc_C p s m args c cc nL own Γ A) {i : Nat} (h : i < 5) {index : Nat} (hlk : wc_lk own index (TT 4)) (hd : decode cc pc = .ok (.getfield index, 3)) (kk : wc_K p l e R s m args below meth c nL Γ A Q cells slots (pc + 3) vs (.int (σ 12 i 0) :: st) σ μ) : wc_K p l e R s m args below meth c nL Γ A Q cells slots (pc) vs (.ref (Γ.2.2 (35 + i)) :: st) σ μ :=
  wr_get C (by omega) (wc_c_Tx h) rfl (by decide) wl_T hlk rfl hd kk
theorem wp_Tx_awaited (C : wc_C p s m args c cc nL own Γ A) {i : Nat} (h : i < 5) {index : Nat} {x : Int32} (hlk : wc_lk own index (TT 4)) (hd : decode cc pc = .ok (.putfield index, 3)) (kk : wc_K p l e R s m args below meth c nL Γ A Q cells slots (pc + 3) vs (st) (wc_st σ 12 i 0 x) μ) : wc_K p l e R s m args below meth c nL Γ A Q cells slots (pc) vs (.int x :: .ref (Γ.2.2 (35 + i)) :: st) σ μ :=
  wr_put C (ty := .int) (by omega) (wc_c_Tx h) rfl (by decide) wl_T tyT tyT_ok nmT rfl (by decide +kernel) (Nat.le_of_ble_eq_true rfl) (wc_set (wc_put_Tx_awaited h) (fun j hj => wc_o_AWT hj)) hlk rfl rfl hd kk
theorem wf_Tx_stamp (C : wc_C p s m args c cc nL own Γ A) {i : Nat} (h : i < 5) {index : Nat} (hlk : wc_lk own index (TT 5)) (hd : decode cc pc = .ok (.getfield index, 3)) (kk : wc_K p l e R s m args below meth c nL Γ A Q cells slots (pc + 3) vs (.int (σ 13 i 0) :: st) σ μ) : wc_K p l e R s m args below meth c nL Γ A Q cells slots (pc) vs (.ref (Γ.2.2 (35 + i)) :: st) σ μ :=
  wr_get C (by omega) (wc_c_Tx h) rfl (by decide) wl_T hlk rfl hd kk
theorem wp_Tx_stamp (C : wc_C p s m args c cc nL own Γ A) {i : Nat} (h : i < 5) {index : Nat} {x : Int32} (hlk : wc_lk own index (TT 5)) (hd : decode cc pc = .ok (.putfield index, 3)) (kk : wc_K p l e R s m args below meth c nL Γ A Q cells slots (pc + 3) vs (st) (wc_st σ 13 i 0 x) μ) : wc_K p l e R s m args below meth c nL Γ A Q cells slots (pc) vs (.int x :: .ref (Γ.2.2 (35 + i)) :: st) σ μ :=
  wr_put C (ty := .int) (by omega) (wc_c_Tx h) rfl (by decide) wl_T tyT tyT_ok nmT rfl (by decide +kernel) (Nat.le_of_ble_eq_true rfl) (wc_set (wc_put_Tx_stamp h) (fun j hj => wc_o_TST hj)) hlk rfl rfl hd kk
theorem wf_Tx_end (C : wc_C p s m args c cc nL own Γ A) {i : Nat} (h : i < 5) {index : Nat} (hlk : wc_lk own index (TT 6)) (hd : decode cc pc = .ok (.getfield index, 3)) (kk : wc_K p l e R s m args below meth c nL Γ A Q cells slots (pc + 3) vs (.int (σ 14 i 0) :: st) σ μ) : wc_K p l e R s m args below meth c nL Γ A Q cells slots (pc) vs (.ref (Γ.2.2 (35 + i)) :: st) σ μ :=
  wr_get C (by omega) (wc_c_Tx h) rfl (by decide) wl_T hlk rfl hd kk
theorem wp_Tx_end (C : wc_C p s m args c cc nL own Γ A) {i : Nat} (h : i < 5) {index : Nat} {x : Int32} (hlk : wc_lk own index (TT 6)) (hd : decode cc pc = .ok (.putfield index, 3)) (kk : wc_K p l e R s m args below meth c nL Γ A Q cells slots (pc + 3) vs (st) (wc_st σ 14 i 0 x) μ) : wc_K p l e R s m args below meth c nL Γ A Q cells slots (pc) vs (.int x :: .ref (Γ.2.2 (35 + i)) :: st) σ μ :=
  wr_put C (ty := .int) (by omega) (wc_c_Tx h) rfl (by decide) wl_T tyT tyT_ok nmT rfl (by decide +kernel) (Nat.le_of_ble_eq_true rfl) (wc_set (wc_put_Tx_end h) (fun j hj => wc_o_END hj)) hlk rfl rfl hd kk
theorem wf_Tx_locks (C : wc_C p s m args c cc nL own Γ A) {i : Nat} (h : i < 5) {index : Nat} (hlk : wc_lk own index (TT 7)) (hd : decode cc pc = .ok (.getfield index, 3)) (kk : wc_K p l e R s m args below meth c nL Γ A Q cells slots (pc + 3) vs (.ref (Γ.2.2 (40 + i)) :: st) σ μ) : wc_K p l e R s m args below meth c nL Γ A Q cells slots (pc) vs (.ref (Γ.2.2 (35 + i)) :: st) σ μ :=
  wr_get C (by omega) (wc_c_Tx h) rfl (by decide) wl_T hlk rfl hd kk
theorem wf_Tx_written (C : wc_C p s m args c cc nL own Γ A) {i : Nat} (h : i < 5) {index : Nat} (hlk : wc_lk own index (TT 8)) (hd : decode cc pc = .ok (.getfield index, 3)) (kk : wc_K p l e R s m args below meth c nL Γ A Q cells slots (pc + 3) vs (.ref (Γ.2.2 (45 + i)) :: st) σ μ) : wc_K p l e R s m args below meth c nL Γ A Q cells slots (pc) vs (.ref (Γ.2.2 (35 + i)) :: st) σ μ :=
  wr_get C (by omega) (wc_c_Tx h) rfl (by decide) wl_T hlk rfl hd kk
theorem wf_Tx_marks (C : wc_C p s m args c cc nL own Γ A) {i : Nat} (h : i < 5) {index : Nat} (hlk : wc_lk own index (TT 9)) (hd : decode cc pc = .ok (.getfield index, 3)) (kk : wc_K p l e R s m args below meth c nL Γ A Q cells slots (pc + 3) vs (.ref (Γ.2.2 (50 + i)) :: st) σ μ) : wc_K p l e R s m args below meth c nL Γ A Q cells slots (pc) vs (.ref (Γ.2.2 (35 + i)) :: st) σ μ :=
  wr_get C (by omega) (wc_c_Tx h) rfl (by decide) wl_T hlk rfl hd kk
theorem wa_locks (C : wc_C p s m args c cc nL own Γ A) {i : Nat} (h : i < 5) {j : Nat} (hj : j < 9) (hd : decode cc pc = .ok (.iaload, 1)) (kk : wc_K p l e R s m args below meth c nL Γ A Q cells slots (pc + 1) vs (.int (σ 15 i j) :: st) σ μ) : wc_K p l e R s m args below meth c nL Γ A Q cells slots (pc) vs (.int (nI j) :: .ref (Γ.2.2 (40 + i)) :: st) σ μ :=
  wr_ild C (by omega) (wc_c_locks h) (t0 := 0) rfl hj (by decide) hd kk
theorem ws_locks (C : wc_C p s m args c cc nL own Γ A) {i : Nat} (h : i < 5) {j : Nat} {x : Int32} (hj : j < 9) (hd : decode cc pc = .ok (.iastore, 1)) (kk : wc_K p l e R s m args below meth c nL Γ A Q cells slots (pc + 1) vs (st) (wc_st σ 15 i j x) μ) : wc_K p l e R s m args below meth c nL Γ A Q cells slots (pc) vs (.int x :: .int (nI j) :: .ref (Γ.2.2 (40 + i)) :: st) σ μ :=
  wr_ist C (by omega) (wc_c_locks h) (t0 := 0) rfl hj (by decide) (wc_set (by rw [wc_c_locks h, wc_st_at]) (fun j hj => wc_o_LCK hj)) hd kk
theorem wa_written (C : wc_C p s m args c cc nL own Γ A) {i : Nat} (h : i < 5) {j : Nat} (hj : j < 9) (hd : decode cc pc = .ok (.iaload, 1)) (kk : wc_K p l e R s m args below meth c nL Γ A Q cells slots (pc + 1) vs (.int (σ 16 i j) :: st) σ μ) : wc_K p l e R s m args below meth c nL Γ A Q cells slots (pc) vs (.int (nI j) :: .ref (Γ.2.2 (45 + i)) :: st) σ μ :=
  wr_ild C (by omega) (wc_c_written h) (t0 := 0) rfl hj (by decide) hd kk
theorem ws_written (C : wc_C p s m args c cc nL own Γ A) {i : Nat} (h : i < 5) {j : Nat} {x : Int32} (hj : j < 9) (hd : decode cc pc = .ok (.iastore, 1)) (kk : wc_K p l e R s m args below meth c nL Γ A Q cells slots (pc + 1) vs (st) (wc_st σ 16 i j x) μ) : wc_K p l e R s m args below meth c nL Γ A Q cells slots (pc) vs (.int x :: .int (nI j) :: .ref (Γ.2.2 (45 + i)) :: st) σ μ :=
  wr_ist C (by omega) (wc_c_written h) (t0 := 0) rfl hj (by decide) (wc_set (by rw [wc_c_written h, wc_st_at]) (fun j hj => wc_o_WRT hj)) hd kk
theorem wa_marks (C : wc_C p s m args c cc nL own Γ A) {i : Nat} (h : i < 5) {j : Nat} (hj : j < 3) (hd : decode cc pc = .ok (.iaload, 1)) (kk : wc_K p l e R s m args below meth c nL Γ A Q cells slots (pc + 1) vs (.int (σ 17 i j) :: st) σ μ) : wc_K p l e R s m args below meth c nL Γ A Q cells slots (pc) vs (.int (nI j) :: .ref (Γ.2.2 (50 + i)) :: st) σ μ :=
  wr_ild C (by omega) (wc_c_marks h) (t0 := 0) rfl hj (by decide) hd kk
theorem ws_marks (C : wc_C p s m args c cc nL own Γ A) {i : Nat} (h : i < 5) {j : Nat} {x : Int32} (hj : j < 3) (hd : decode cc pc = .ok (.iastore, 1)) (kk : wc_K p l e R s m args below meth c nL Γ A Q cells slots (pc + 1) vs (st) (wc_st σ 17 i j x) μ) : wc_K p l e R s m args below meth c nL Γ A Q cells slots (pc) vs (.int x :: .int (nI j) :: .ref (Γ.2.2 (50 + i)) :: st) σ μ :=
  wr_ist C (by omega) (wc_c_marks h) (t0 := 0) rfl hj (by decide) (wc_set (by rw [wc_c_marks h, wc_st_at]) (fun j hj => wc_o_MRK hj)) hd kk
theorem wf_Msg_transaction (C : wc_C p s m args c cc nL own Γ A) {i : Nat} (h : i < 15) {index : Nat} (hlk : wc_lk own index (TG 0)) (hd : decode cc pc = .ok (.getfield index, 3)) (kk : wc_K p l e R s m args below meth c nL Γ A Q cells slots (pc + 3) vs (.int (nI (i / 3)) :: st) σ μ) : wc_K p l e R s m args below meth c nL Γ A Q cells slots (pc) vs (.ref (Γ.2.2 (55 + i)) :: st) σ μ :=
  wr_get C (by omega) (wc_c_Msg h) rfl (by decide) wl_G hlk rfl hd kk
theorem wf_Msg_participant (C : wc_C p s m args c cc nL own Γ A) {i : Nat} (h : i < 15) {index : Nat} (hlk : wc_lk own index (TG 1)) (hd : decode cc pc = .ok (.getfield index, 3)) (kk : wc_K p l e R s m args below meth c nL Γ A Q cells slots (pc + 3) vs (.int (nI (i % 3)) :: st) σ μ) : wc_K p l e R s m args below meth c nL Γ A Q cells slots (pc) vs (.ref (Γ.2.2 (55 + i)) :: st) σ μ :=
  wr_get C (by omega) (wc_c_Msg h) rfl (by decide) wl_G hlk rfl hd kk
theorem wf_Msg_kind (C : wc_C p s m args c cc nL own Γ A) {i : Nat} (h : i < 15) {index : Nat} (hlk : wc_lk own index (TG 2)) (hd : decode cc pc = .ok (.getfield index, 3)) (kk : wc_K p l e R s m args below meth c nL Γ A Q cells slots (pc + 3) vs (.int (σ 18 i 0) :: st) σ μ) : wc_K p l e R s m args below meth c nL Γ A Q cells slots (pc) vs (.ref (Γ.2.2 (55 + i)) :: st) σ μ :=
  wr_get C (by omega) (wc_c_Msg h) rfl (by decide) wl_G hlk rfl hd kk
theorem wp_Msg_kind (C : wc_C p s m args c cc nL own Γ A) {i : Nat} (h : i < 15) {index : Nat} {x : Int32} (hlk : wc_lk own index (TG 2)) (hd : decode cc pc = .ok (.putfield index, 3)) (kk : wc_K p l e R s m args below meth c nL Γ A Q cells slots (pc + 3) vs (st) (wc_st σ 18 i 0 x) μ) : wc_K p l e R s m args below meth c nL Γ A Q cells slots (pc) vs (.int x :: .ref (Γ.2.2 (55 + i)) :: st) σ μ :=
  wr_put C (ty := .int) (by omega) (wc_c_Msg h) rfl (by decide) wl_G tyG tyG_ok nmG rfl (by decide +kernel) (Nat.le_of_ble_eq_true rfl) (wc_set (wc_put_Msg_kind h) (fun j hj => wc_o_KND hj)) hlk rfl rfl hd kk
theorem wf_Msg_receiver (C : wc_C p s m args c cc nL own Γ A) {i : Nat} (h : i < 15) {index : Nat} (hlk : wc_lk own index (TG 3)) (hd : decode cc pc = .ok (.getfield index, 3)) (kk : wc_K p l e R s m args below meth c nL Γ A Q cells slots (pc + 3) vs (.int (σ 19 i 0) :: st) σ μ) : wc_K p l e R s m args below meth c nL Γ A Q cells slots (pc) vs (.ref (Γ.2.2 (55 + i)) :: st) σ μ :=
  wr_get C (by omega) (wc_c_Msg h) rfl (by decide) wl_G hlk rfl hd kk
theorem wp_Msg_receiver (C : wc_C p s m args c cc nL own Γ A) {i : Nat} (h : i < 15) {index : Nat} {x : Int32} (hlk : wc_lk own index (TG 3)) (hd : decode cc pc = .ok (.putfield index, 3)) (kk : wc_K p l e R s m args below meth c nL Γ A Q cells slots (pc + 3) vs (st) (wc_st σ 19 i 0 x) μ) : wc_K p l e R s m args below meth c nL Γ A Q cells slots (pc) vs (.int x :: .ref (Γ.2.2 (55 + i)) :: st) σ μ :=
  wr_put C (ty := .int) (by omega) (wc_c_Msg h) rfl (by decide) wl_G tyG tyG_ok nmG rfl (by decide +kernel) (Nat.le_of_ble_eq_true rfl) (wc_set (wc_put_Msg_receiver h) (fun j hj => wc_o_RCV hj)) hlk rfl rfl hd kk
theorem wf_Msg_arrival (C : wc_C p s m args c cc nL own Γ A) {i : Nat} (h : i < 15) {index : Nat} (hlk : wc_lk own index (TG 4)) (hd : decode cc pc = .ok (.getfield index, 3)) (kk : wc_K p l e R s m args below meth c nL Γ A Q cells slots (pc + 3) vs (.int (σ 20 i 0) :: st) σ μ) : wc_K p l e R s m args below meth c nL Γ A Q cells slots (pc) vs (.ref (Γ.2.2 (55 + i)) :: st) σ μ :=
  wr_get C (by omega) (wc_c_Msg h) rfl (by decide) wl_G hlk rfl hd kk
theorem wp_Msg_arrival (C : wc_C p s m args c cc nL own Γ A) {i : Nat} (h : i < 15) {index : Nat} {x : Int32} (hlk : wc_lk own index (TG 4)) (hd : decode cc pc = .ok (.putfield index, 3)) (kk : wc_K p l e R s m args below meth c nL Γ A Q cells slots (pc + 3) vs (st) (wc_st σ 20 i 0 x) μ) : wc_K p l e R s m args below meth c nL Γ A Q cells slots (pc) vs (.int x :: .ref (Γ.2.2 (55 + i)) :: st) σ μ :=
  wr_put C (ty := .int) (by omega) (wc_c_Msg h) rfl (by decide) wl_G tyG tyG_ok nmG rfl (by decide +kernel) (Nat.le_of_ble_eq_true rfl) (wc_set (wc_put_Msg_arrival h) (fun j hj => wc_o_ARR hj)) hlk rfl rfl hd kk
theorem wf_Msg_order (C : wc_C p s m args c cc nL own Γ A) {i : Nat} (h : i < 15) {index : Nat} (hlk : wc_lk own index (TG 5)) (hd : decode cc pc = .ok (.getfield index, 3)) (kk : wc_K p l e R s m args below meth c nL Γ A Q cells slots (pc + 3) vs (.int (σ 21 i 0) :: st) σ μ) : wc_K p l e R s m args below meth c nL Γ A Q cells slots (pc) vs (.ref (Γ.2.2 (55 + i)) :: st) σ μ :=
  wr_get C (by omega) (wc_c_Msg h) rfl (by decide) wl_G hlk rfl hd kk
theorem wp_Msg_order (C : wc_C p s m args c cc nL own Γ A) {i : Nat} (h : i < 15) {index : Nat} {x : Int32} (hlk : wc_lk own index (TG 5)) (hd : decode cc pc = .ok (.putfield index, 3)) (kk : wc_K p l e R s m args below meth c nL Γ A Q cells slots (pc + 3) vs (st) (wc_st σ 21 i 0 x) μ) : wc_K p l e R s m args below meth c nL Γ A Q cells slots (pc) vs (.int x :: .ref (Γ.2.2 (55 + i)) :: st) σ μ :=
  wr_put C (ty := .int) (by omega) (wc_c_Msg h) rfl (by decide) wl_G tyG tyG_ok nmG rfl (by decide +kernel) (Nat.le_of_ble_eq_true rfl) (wc_set (wc_put_Msg_order h) (fun j hj => wc_o_ORD hj)) hlk rfl rfl hd kk
theorem wf_Model_e (C : wc_C p s m args c cc nL own Γ A) {index : Nat} (hlk : wc_lk own index (TM 0)) (hd : decode cc pc = .ok (.getfield index, 3)) (kk : wc_K p l e R s m args below meth c nL Γ A Q cells slots (pc + 3) vs (.int (μ 30 0 0) :: st) σ μ) : wc_K p l e R s m args below meth c nL Γ A Q cells slots (pc) vs (.ref (Γ.2.2 (70)) :: st) σ μ :=
  wr_get C (by omega) (wc_c_Model) rfl (by decide) wl_M hlk rfl hd kk
theorem wp_Model_e (C : wc_C p s m args c cc nL own Γ A) {index : Nat} {x : Int32} (hlk : wc_lk own index (TM 0)) (hd : decode cc pc = .ok (.putfield index, 3)) (kk : wc_K p l e R s m args below meth c nL Γ A Q cells slots (pc + 3) vs (st) σ (wc_st μ 30 0 0 x)) : wc_K p l e R s m args below meth c nL Γ A Q cells slots (pc) vs (.int x :: .ref (Γ.2.2 (70)) :: st) σ μ :=
  wr_put C (ty := .int) (by omega) (wc_c_Model) rfl (by decide) wl_M tyM tyM_ok nmM rfl (by decide +kernel) (Nat.le_of_ble_eq_true rfl) (wc_set (wc_put_Model_e) (fun j hj => wc_o_RE hj)) hlk rfl rfl hd kk
theorem wf_Model_now (C : wc_C p s m args c cc nL own Γ A) {index : Nat} (hlk : wc_lk own index (TM 1)) (hd : decode cc pc = .ok (.getfield index, 3)) (kk : wc_K p l e R s m args below meth c nL Γ A Q cells slots (pc + 3) vs (.int (μ 31 0 0) :: st) σ μ) : wc_K p l e R s m args below meth c nL Γ A Q cells slots (pc) vs (.ref (Γ.2.2 (70)) :: st) σ μ :=
  wr_get C (by omega) (wc_c_Model) rfl (by decide) wl_M hlk rfl hd kk
theorem wp_Model_now (C : wc_C p s m args c cc nL own Γ A) {index : Nat} {x : Int32} (hlk : wc_lk own index (TM 1)) (hd : decode cc pc = .ok (.putfield index, 3)) (kk : wc_K p l e R s m args below meth c nL Γ A Q cells slots (pc + 3) vs (st) σ (wc_st μ 31 0 0 x)) : wc_K p l e R s m args below meth c nL Γ A Q cells slots (pc) vs (.int x :: .ref (Γ.2.2 (70)) :: st) σ μ :=
  wr_put C (ty := .int) (by omega) (wc_c_Model) rfl (by decide) wl_M tyM tyM_ok nmM rfl (by decide +kernel) (Nat.le_of_ble_eq_true rfl) (wc_set (wc_put_Model_now) (fun j hj => wc_o_NOW hj)) hlk rfl rfl hd kk
theorem wf_Model_early (C : wc_C p s m args c cc nL own Γ A) {index : Nat} (hlk : wc_lk own index (TM 2)) (hd : decode cc pc = .ok (.getfield index, 3)) (kk : wc_K p l e R s m args below meth c nL Γ A Q cells slots (pc + 3) vs (.ref (Γ.2.2 71) :: st) σ μ) : wc_K p l e R s m args below meth c nL Γ A Q cells slots (pc) vs (.ref (Γ.2.2 (70)) :: st) σ μ :=
  wr_get C (by omega) (wc_c_Model) rfl (by decide) wl_M hlk rfl hd kk
theorem wf_Model_late (C : wc_C p s m args c cc nL own Γ A) {index : Nat} (hlk : wc_lk own index (TM 3)) (hd : decode cc pc = .ok (.getfield index, 3)) (kk : wc_K p l e R s m args below meth c nL Γ A Q cells slots (pc + 3) vs (.ref (Γ.2.2 72) :: st) σ μ) : wc_K p l e R s m args below meth c nL Γ A Q cells slots (pc) vs (.ref (Γ.2.2 (70)) :: st) σ μ :=
  wr_get C (by omega) (wc_c_Model) rfl (by decide) wl_M hlk rfl hd kk
theorem wf_Model_slow (C : wc_C p s m args c cc nL own Γ A) {index : Nat} (hlk : wc_lk own index (TM 4)) (hd : decode cc pc = .ok (.getfield index, 3)) (kk : wc_K p l e R s m args below meth c nL Γ A Q cells slots (pc + 3) vs (.ref (Γ.2.2 73) :: st) σ μ) : wc_K p l e R s m args below meth c nL Γ A Q cells slots (pc) vs (.ref (Γ.2.2 (70)) :: st) σ μ :=
  wr_get C (by omega) (wc_c_Model) rfl (by decide) wl_M hlk rfl hd kk
theorem wf_Model_down (C : wc_C p s m args c cc nL own Γ A) {index : Nat} (hlk : wc_lk own index (TM 5)) (hd : decode cc pc = .ok (.getfield index, 3)) (kk : wc_K p l e R s m args below meth c nL Γ A Q cells slots (pc + 3) vs (.ref (Γ.2.2 74) :: st) σ μ) : wc_K p l e R s m args below meth c nL Γ A Q cells slots (pc) vs (.ref (Γ.2.2 (70)) :: st) σ μ :=
  wr_get C (by omega) (wc_c_Model) rfl (by decide) wl_M hlk rfl hd kk
theorem wf_Model_bound (C : wc_C p s m args c cc nL own Γ A) {index : Nat} (hlk : wc_lk own index (TM 6)) (hd : decode cc pc = .ok (.getfield index, 3)) (kk : wc_K p l e R s m args below meth c nL Γ A Q cells slots (pc + 3) vs (.ref (Γ.2.2 75) :: st) σ μ) : wc_K p l e R s m args below meth c nL Γ A Q cells slots (pc) vs (.ref (Γ.2.2 (70)) :: st) σ μ :=
  wr_get C (by omega) (wc_c_Model) rfl (by decide) wl_M hlk rfl hd kk
theorem wf_Model_versions (C : wc_C p s m args c cc nL own Γ A) {index : Nat} (hlk : wc_lk own index (TM 7)) (hd : decode cc pc = .ok (.getfield index, 3)) (kk : wc_K p l e R s m args below meth c nL Γ A Q cells slots (pc + 3) vs (.int (μ 37 0 0) :: st) σ μ) : wc_K p l e R s m args below meth c nL Γ A Q cells slots (pc) vs (.ref (Γ.2.2 (70)) :: st) σ μ :=
  wr_get C (by omega) (wc_c_Model) rfl (by decide) wl_M hlk rfl hd kk
theorem wp_Model_versions (C : wc_C p s m args c cc nL own Γ A) {index : Nat} {x : Int32} (hlk : wc_lk own index (TM 7)) (hd : decode cc pc = .ok (.putfield index, 3)) (kk : wc_K p l e R s m args below meth c nL Γ A Q cells slots (pc + 3) vs (st) σ (wc_st μ 37 0 0 x)) : wc_K p l e R s m args below meth c nL Γ A Q cells slots (pc) vs (.int x :: .ref (Γ.2.2 (70)) :: st) σ μ :=
  wr_put C (ty := .int) (by omega) (wc_c_Model) rfl (by decide) wl_M tyM tyM_ok nmM rfl (by decide +kernel) (Nat.le_of_ble_eq_true rfl) (wc_set (wc_put_Model_versions) (fun j hj => wc_o_VERS hj)) hlk rfl rfl hd kk
theorem wf_Model_versionKey (C : wc_C p s m args c cc nL own Γ A) {index : Nat} (hlk : wc_lk own index (TM 8)) (hd : decode cc pc = .ok (.getfield index, 3)) (kk : wc_K p l e R s m args below meth c nL Γ A Q cells slots (pc + 3) vs (.ref (Γ.2.2 76) :: st) σ μ) : wc_K p l e R s m args below meth c nL Γ A Q cells slots (pc) vs (.ref (Γ.2.2 (70)) :: st) σ μ :=
  wr_get C (by omega) (wc_c_Model) rfl (by decide) wl_M hlk rfl hd kk
theorem wf_Model_versionStamp (C : wc_C p s m args c cc nL own Γ A) {index : Nat} (hlk : wc_lk own index (TM 9)) (hd : decode cc pc = .ok (.getfield index, 3)) (kk : wc_K p l e R s m args below meth c nL Γ A Q cells slots (pc + 3) vs (.ref (Γ.2.2 77) :: st) σ μ) : wc_K p l e R s m args below meth c nL Γ A Q cells slots (pc) vs (.ref (Γ.2.2 (70)) :: st) σ μ :=
  wr_get C (by omega) (wc_c_Model) rfl (by decide) wl_M hlk rfl hd kk
theorem wf_Model_versionValue (C : wc_C p s m args c cc nL own Γ A) {index : Nat} (hlk : wc_lk own index (TM 10)) (hd : decode cc pc = .ok (.getfield index, 3)) (kk : wc_K p l e R s m args below meth c nL Γ A Q cells slots (pc + 3) vs (.ref (Γ.2.2 78) :: st) σ μ) : wc_K p l e R s m args below meth c nL Γ A Q cells slots (pc) vs (.ref (Γ.2.2 (70)) :: st) σ μ :=
  wr_get C (by omega) (wc_c_Model) rfl (by decide) wl_M hlk rfl hd kk
theorem wf_Model_begun (C : wc_C p s m args c cc nL own Γ A) {index : Nat} (hlk : wc_lk own index (TM 11)) (hd : decode cc pc = .ok (.getfield index, 3)) (kk : wc_K p l e R s m args below meth c nL Γ A Q cells slots (pc + 3) vs (.int (μ 41 0 0) :: st) σ μ) : wc_K p l e R s m args below meth c nL Γ A Q cells slots (pc) vs (.ref (Γ.2.2 (70)) :: st) σ μ :=
  wr_get C (by omega) (wc_c_Model) rfl (by decide) wl_M hlk rfl hd kk
theorem wp_Model_begun (C : wc_C p s m args c cc nL own Γ A) {index : Nat} {x : Int32} (hlk : wc_lk own index (TM 11)) (hd : decode cc pc = .ok (.putfield index, 3)) (kk : wc_K p l e R s m args below meth c nL Γ A Q cells slots (pc + 3) vs (st) σ (wc_st μ 41 0 0 x)) : wc_K p l e R s m args below meth c nL Γ A Q cells slots (pc) vs (.int x :: .ref (Γ.2.2 (70)) :: st) σ μ :=
  wr_put C (ty := .int) (by omega) (wc_c_Model) rfl (by decide) wl_M tyM tyM_ok nmM rfl (by decide +kernel) (Nat.le_of_ble_eq_true rfl) (wc_set (wc_put_Model_begun) (fun j hj => wc_o_RBEG hj)) hlk rfl rfl hd kk
theorem wf_Model_state (C : wc_C p s m args c cc nL own Γ A) {index : Nat} (hlk : wc_lk own index (TM 12)) (hd : decode cc pc = .ok (.getfield index, 3)) (kk : wc_K p l e R s m args below meth c nL Γ A Q cells slots (pc + 3) vs (.ref (Γ.2.2 79) :: st) σ μ) : wc_K p l e R s m args below meth c nL Γ A Q cells slots (pc) vs (.ref (Γ.2.2 (70)) :: st) σ μ :=
  wr_get C (by omega) (wc_c_Model) rfl (by decide) wl_M hlk rfl hd kk
theorem wf_Model_age (C : wc_C p s m args c cc nL own Γ A) {index : Nat} (hlk : wc_lk own index (TM 13)) (hd : decode cc pc = .ok (.getfield index, 3)) (kk : wc_K p l e R s m args below meth c nL Γ A Q cells slots (pc + 3) vs (.ref (Γ.2.2 80) :: st) σ μ) : wc_K p l e R s m args below meth c nL Γ A Q cells slots (pc) vs (.ref (Γ.2.2 (70)) :: st) σ μ :=
  wr_get C (by omega) (wc_c_Model) rfl (by decide) wl_M hlk rfl hd kk
theorem wf_Model_stamp (C : wc_C p s m args c cc nL own Γ A) {index : Nat} (hlk : wc_lk own index (TM 14)) (hd : decode cc pc = .ok (.getfield index, 3)) (kk : wc_K p l e R s m args below meth c nL Γ A Q cells slots (pc + 3) vs (.ref (Γ.2.2 81) :: st) σ μ) : wc_K p l e R s m args below meth c nL Γ A Q cells slots (pc) vs (.ref (Γ.2.2 (70)) :: st) σ μ :=
  wr_get C (by omega) (wc_c_Model) rfl (by decide) wl_M hlk rfl hd kk
theorem wf_Model_floor (C : wc_C p s m args c cc nL own Γ A) {index : Nat} (hlk : wc_lk own index (TM 15)) (hd : decode cc pc = .ok (.getfield index, 3)) (kk : wc_K p l e R s m args below meth c nL Γ A Q cells slots (pc + 3) vs (.ref (Γ.2.2 82) :: st) σ μ) : wc_K p l e R s m args below meth c nL Γ A Q cells slots (pc) vs (.ref (Γ.2.2 (70)) :: st) σ μ :=
  wr_get C (by omega) (wc_c_Model) rfl (by decide) wl_M hlk rfl hd kk
theorem wf_Model_ended (C : wc_C p s m args c cc nL own Γ A) {index : Nat} (hlk : wc_lk own index (TM 16)) (hd : decode cc pc = .ok (.getfield index, 3)) (kk : wc_K p l e R s m args below meth c nL Γ A Q cells slots (pc + 3) vs (.ref (Γ.2.2 83) :: st) σ μ) : wc_K p l e R s m args below meth c nL Γ A Q cells slots (pc) vs (.ref (Γ.2.2 (70)) :: st) σ μ :=
  wr_get C (by omega) (wc_c_Model) rfl (by decide) wl_M hlk rfl hd kk
theorem wf_Model_lock (C : wc_C p s m args c cc nL own Γ A) {index : Nat} (hlk : wc_lk own index (TM 17)) (hd : decode cc pc = .ok (.getfield index, 3)) (kk : wc_K p l e R s m args below meth c nL Γ A Q cells slots (pc + 3) vs (.ref (Γ.2.2 84) :: st) σ μ) : wc_K p l e R s m args below meth c nL Γ A Q cells slots (pc) vs (.ref (Γ.2.2 (70)) :: st) σ μ :=
  wr_get C (by omega) (wc_c_Model) rfl (by decide) wl_M hlk rfl hd kk
theorem wf_Model_wrote (C : wc_C p s m args c cc nL own Γ A) {index : Nat} (hlk : wc_lk own index (TM 18)) (hd : decode cc pc = .ok (.getfield index, 3)) (kk : wc_K p l e R s m args below meth c nL Γ A Q cells slots (pc + 3) vs (.ref (Γ.2.2 85) :: st) σ μ) : wc_K p l e R s m args below meth c nL Γ A Q cells slots (pc) vs (.ref (Γ.2.2 (70)) :: st) σ μ :=
  wr_get C (by omega) (wc_c_Model) rfl (by decide) wl_M hlk rfl hd kk
theorem wf_Model_value (C : wc_C p s m args c cc nL own Γ A) {index : Nat} (hlk : wc_lk own index (TM 19)) (hd : decode cc pc = .ok (.getfield index, 3)) (kk : wc_K p l e R s m args below meth c nL Γ A Q cells slots (pc + 3) vs (.ref (Γ.2.2 86) :: st) σ μ) : wc_K p l e R s m args below meth c nL Γ A Q cells slots (pc) vs (.ref (Γ.2.2 (70)) :: st) σ μ :=
  wr_get C (by omega) (wc_c_Model) rfl (by decide) wl_M hlk rfl hd kk
theorem wf_Model_marked (C : wc_C p s m args c cc nL own Γ A) {index : Nat} (hlk : wc_lk own index (TM 20)) (hd : decode cc pc = .ok (.getfield index, 3)) (kk : wc_K p l e R s m args below meth c nL Γ A Q cells slots (pc + 3) vs (.ref (Γ.2.2 87) :: st) σ μ) : wc_K p l e R s m args below meth c nL Γ A Q cells slots (pc) vs (.ref (Γ.2.2 (70)) :: st) σ μ :=
  wr_get C (by omega) (wc_c_Model) rfl (by decide) wl_M hlk rfl hd kk
theorem wf_Model_mark (C : wc_C p s m args c cc nL own Γ A) {index : Nat} (hlk : wc_lk own index (TM 21)) (hd : decode cc pc = .ok (.getfield index, 3)) (kk : wc_K p l e R s m args below meth c nL Γ A Q cells slots (pc + 3) vs (.ref (Γ.2.2 88) :: st) σ μ) : wc_K p l e R s m args below meth c nL Γ A Q cells slots (pc) vs (.ref (Γ.2.2 (70)) :: st) σ μ :=
  wr_get C (by omega) (wc_c_Model) rfl (by decide) wl_M hlk rfl hd kk
theorem wf_Model_sent (C : wc_C p s m args c cc nL own Γ A) {index : Nat} (hlk : wc_lk own index (TM 22)) (hd : decode cc pc = .ok (.getfield index, 3)) (kk : wc_K p l e R s m args below meth c nL Γ A Q cells slots (pc + 3) vs (.int (μ 52 0 0) :: st) σ μ) : wc_K p l e R s m args below meth c nL Γ A Q cells slots (pc) vs (.ref (Γ.2.2 (70)) :: st) σ μ :=
  wr_get C (by omega) (wc_c_Model) rfl (by decide) wl_M hlk rfl hd kk
theorem wp_Model_sent (C : wc_C p s m args c cc nL own Γ A) {index : Nat} {x : Int32} (hlk : wc_lk own index (TM 22)) (hd : decode cc pc = .ok (.putfield index, 3)) (kk : wc_K p l e R s m args below meth c nL Γ A Q cells slots (pc + 3) vs (st) σ (wc_st μ 52 0 0 x)) : wc_K p l e R s m args below meth c nL Γ A Q cells slots (pc) vs (.int x :: .ref (Γ.2.2 (70)) :: st) σ μ :=
  wr_put C (ty := .int) (by omega) (wc_c_Model) rfl (by decide) wl_M tyM tyM_ok nmM rfl (by decide +kernel) (Nat.le_of_ble_eq_true rfl) (wc_set (wc_put_Model_sent) (fun j hj => wc_o_RSENT hj)) hlk rfl rfl hd kk
theorem wf_Model_arrives (C : wc_C p s m args c cc nL own Γ A) {index : Nat} (hlk : wc_lk own index (TM 23)) (hd : decode cc pc = .ok (.getfield index, 3)) (kk : wc_K p l e R s m args below meth c nL Γ A Q cells slots (pc + 3) vs (.ref (Γ.2.2 89) :: st) σ μ) : wc_K p l e R s m args below meth c nL Γ A Q cells slots (pc) vs (.ref (Γ.2.2 (70)) :: st) σ μ :=
  wr_get C (by omega) (wc_c_Model) rfl (by decide) wl_M hlk rfl hd kk
theorem wf_Model_number (C : wc_C p s m args c cc nL own Γ A) {index : Nat} (hlk : wc_lk own index (TM 24)) (hd : decode cc pc = .ok (.getfield index, 3)) (kk : wc_K p l e R s m args below meth c nL Γ A Q cells slots (pc + 3) vs (.ref (Γ.2.2 90) :: st) σ μ) : wc_K p l e R s m args below meth c nL Γ A Q cells slots (pc) vs (.ref (Γ.2.2 (70)) :: st) σ μ :=
  wr_get C (by omega) (wc_c_Model) rfl (by decide) wl_M hlk rfl hd kk
theorem wa_m_early (C : wc_C p s m args c cc nL own Γ A) {j : Nat} (hj : j < 3) (hd : decode cc pc = .ok (.iaload, 1)) (kk : wc_K p l e R s m args below meth c nL Γ A Q cells slots (pc + 1) vs (.int (μ 32 0 j) :: st) σ μ) : wc_K p l e R s m args below meth c nL Γ A Q cells slots (pc) vs (.int (nI j) :: .ref (Γ.2.2 (71)) :: st) σ μ :=
  wr_ild C (by omega) (wc_c_m_early) (t0 := 0) rfl hj (by decide) hd kk
theorem ws_m_early (C : wc_C p s m args c cc nL own Γ A) {j : Nat} {x : Int32} (hj : j < 3) (hd : decode cc pc = .ok (.iastore, 1)) (kk : wc_K p l e R s m args below meth c nL Γ A Q cells slots (pc + 1) vs (st) σ (wc_st μ 32 0 j x)) : wc_K p l e R s m args below meth c nL Γ A Q cells slots (pc) vs (.int x :: .int (nI j) :: .ref (Γ.2.2 (71)) :: st) σ μ :=
  wr_ist C (by omega) (wc_c_m_early) (t0 := 0) rfl hj (by decide) (wc_set (by rw [wc_c_m_early, wc_st_at]) (fun j hj => wc_o_EARLY hj)) hd kk
theorem wa_m_late (C : wc_C p s m args c cc nL own Γ A) {j : Nat} (hj : j < 3) (hd : decode cc pc = .ok (.iaload, 1)) (kk : wc_K p l e R s m args below meth c nL Γ A Q cells slots (pc + 1) vs (.int (μ 33 0 j) :: st) σ μ) : wc_K p l e R s m args below meth c nL Γ A Q cells slots (pc) vs (.int (nI j) :: .ref (Γ.2.2 (72)) :: st) σ μ :=
  wr_ild C (by omega) (wc_c_m_late) (t0 := 0) rfl hj (by decide) hd kk
theorem ws_m_late (C : wc_C p s m args c cc nL own Γ A) {j : Nat} {x : Int32} (hj : j < 3) (hd : decode cc pc = .ok (.iastore, 1)) (kk : wc_K p l e R s m args below meth c nL Γ A Q cells slots (pc + 1) vs (st) σ (wc_st μ 33 0 j x)) : wc_K p l e R s m args below meth c nL Γ A Q cells slots (pc) vs (.int x :: .int (nI j) :: .ref (Γ.2.2 (72)) :: st) σ μ :=
  wr_ist C (by omega) (wc_c_m_late) (t0 := 0) rfl hj (by decide) (wc_set (by rw [wc_c_m_late, wc_st_at]) (fun j hj => wc_o_LATE hj)) hd kk
theorem wa_m_slow (C : wc_C p s m args c cc nL own Γ A) {j : Nat} (hj : j < 3) (hd : decode cc pc = .ok (.iaload, 1)) (kk : wc_K p l e R s m args below meth c nL Γ A Q cells slots (pc + 1) vs (.int (μ 34 0 j) :: st) σ μ) : wc_K p l e R s m args below meth c nL Γ A Q cells slots (pc) vs (.int (nI j) :: .ref (Γ.2.2 (73)) :: st) σ μ :=
  wr_ild C (by omega) (wc_c_m_slow) (t0 := 0) rfl hj (by decide) hd kk
theorem ws_m_slow (C : wc_C p s m args c cc nL own Γ A) {j : Nat} {x : Int32} (hj : j < 3) (hd : decode cc pc = .ok (.iastore, 1)) (kk : wc_K p l e R s m args below meth c nL Γ A Q cells slots (pc + 1) vs (st) σ (wc_st μ 34 0 j x)) : wc_K p l e R s m args below meth c nL Γ A Q cells slots (pc) vs (.int x :: .int (nI j) :: .ref (Γ.2.2 (73)) :: st) σ μ :=
  wr_ist C (by omega) (wc_c_m_slow) (t0 := 0) rfl hj (by decide) (wc_set (by rw [wc_c_m_slow, wc_st_at]) (fun j hj => wc_o_SLOW hj)) hd kk
theorem wa_m_down (C : wc_C p s m args c cc nL own Γ A) {j : Nat} (hj : j < 3) (hd : decode cc pc = .ok (.baload, 1)) (kk : wc_K p l e R s m args below meth c nL Γ A Q cells slots (pc + 1) vs (.int (μ 35 0 j) :: st) σ μ) : wc_K p l e R s m args below meth c nL Γ A Q cells slots (pc) vs (.int (nI j) :: .ref (Γ.2.2 (74)) :: st) σ μ :=
  wr_zld C (by omega) (wc_c_m_down) (t0 := 1) rfl hj (by decide) hd kk
theorem ws_m_down (C : wc_C p s m args c cc nL own Γ A) {j : Nat} {x : Int32} (hx : vp_nar .boolean x = x) (hj : j < 3) (hd : decode cc pc = .ok (.bastore, 1)) (kk : wc_K p l e R s m args below meth c nL Γ A Q cells slots (pc + 1) vs (st) σ (wc_st μ 35 0 j x)) : wc_K p l e R s m args below meth c nL Γ A Q cells slots (pc) vs (.int x :: .int (nI j) :: .ref (Γ.2.2 (74)) :: st) σ μ :=
  wr_zst C (by omega) (wc_c_m_down) (t0 := 1) rfl hj (by decide) (wc_set (by rw [wc_c_m_down, wc_st_at]; rw [hx]) (fun j hj => wc_o_DOWN hj)) hd kk
theorem wa_m_bound (C : wc_C p s m args c cc nL own Γ A) {j : Nat} (hj : j < 3) (hd : decode cc pc = .ok (.iaload, 1)) (kk : wc_K p l e R s m args below meth c nL Γ A Q cells slots (pc + 1) vs (.int (μ 36 0 j) :: st) σ μ) : wc_K p l e R s m args below meth c nL Γ A Q cells slots (pc) vs (.int (nI j) :: .ref (Γ.2.2 (75)) :: st) σ μ :=
  wr_ild C (by omega) (wc_c_m_bound) (t0 := 0) rfl hj (by decide) hd kk
theorem ws_m_bound (C : wc_C p s m args c cc nL own Γ A) {j : Nat} {x : Int32} (hj : j < 3) (hd : decode cc pc = .ok (.iastore, 1)) (kk : wc_K p l e R s m args below meth c nL Γ A Q cells slots (pc + 1) vs (st) σ (wc_st μ 36 0 j x)) : wc_K p l e R s m args below meth c nL Γ A Q cells slots (pc) vs (.int x :: .int (nI j) :: .ref (Γ.2.2 (75)) :: st) σ μ :=
  wr_ist C (by omega) (wc_c_m_bound) (t0 := 0) rfl hj (by decide) (wc_set (by rw [wc_c_m_bound, wc_st_at]) (fun j hj => wc_o_RBND hj)) hd kk
theorem wa_m_versionKey (C : wc_C p s m args c cc nL own Γ A) {j : Nat} (hj : j < 512) (hd : decode cc pc = .ok (.iaload, 1)) (kk : wc_K p l e R s m args below meth c nL Γ A Q cells slots (pc + 1) vs (.int (μ 38 0 j) :: st) σ μ) : wc_K p l e R s m args below meth c nL Γ A Q cells slots (pc) vs (.int (nI j) :: .ref (Γ.2.2 (76)) :: st) σ μ :=
  wr_ild C (by omega) (wc_c_m_versionKey) (t0 := 0) rfl hj (by decide) hd kk
theorem ws_m_versionKey (C : wc_C p s m args c cc nL own Γ A) {j : Nat} {x : Int32} (hj : j < 512) (hd : decode cc pc = .ok (.iastore, 1)) (kk : wc_K p l e R s m args below meth c nL Γ A Q cells slots (pc + 1) vs (st) σ (wc_st μ 38 0 j x)) : wc_K p l e R s m args below meth c nL Γ A Q cells slots (pc) vs (.int x :: .int (nI j) :: .ref (Γ.2.2 (76)) :: st) σ μ :=
  wr_ist C (by omega) (wc_c_m_versionKey) (t0 := 0) rfl hj (by decide) (wc_set (by rw [wc_c_m_versionKey, wc_st_at]) (fun j hj => wc_o_VKEY hj)) hd kk
theorem wa_m_versionStamp (C : wc_C p s m args c cc nL own Γ A) {j : Nat} (hj : j < 512) (hd : decode cc pc = .ok (.iaload, 1)) (kk : wc_K p l e R s m args below meth c nL Γ A Q cells slots (pc + 1) vs (.int (μ 39 0 j) :: st) σ μ) : wc_K p l e R s m args below meth c nL Γ A Q cells slots (pc) vs (.int (nI j) :: .ref (Γ.2.2 (77)) :: st) σ μ :=
  wr_ild C (by omega) (wc_c_m_versionStamp) (t0 := 0) rfl hj (by decide) hd kk
theorem ws_m_versionStamp (C : wc_C p s m args c cc nL own Γ A) {j : Nat} {x : Int32} (hj : j < 512) (hd : decode cc pc = .ok (.iastore, 1)) (kk : wc_K p l e R s m args below meth c nL Γ A Q cells slots (pc + 1) vs (st) σ (wc_st μ 39 0 j x)) : wc_K p l e R s m args below meth c nL Γ A Q cells slots (pc) vs (.int x :: .int (nI j) :: .ref (Γ.2.2 (77)) :: st) σ μ :=
  wr_ist C (by omega) (wc_c_m_versionStamp) (t0 := 0) rfl hj (by decide) (wc_set (by rw [wc_c_m_versionStamp, wc_st_at]) (fun j hj => wc_o_VSTP hj)) hd kk
theorem wa_m_versionValue (C : wc_C p s m args c cc nL own Γ A) {j : Nat} (hj : j < 512) (hd : decode cc pc = .ok (.iaload, 1)) (kk : wc_K p l e R s m args below meth c nL Γ A Q cells slots (pc + 1) vs (.int (μ 40 0 j) :: st) σ μ) : wc_K p l e R s m args below meth c nL Γ A Q cells slots (pc) vs (.int (nI j) :: .ref (Γ.2.2 (78)) :: st) σ μ :=
  wr_ild C (by omega) (wc_c_m_versionValue) (t0 := 0) rfl hj (by decide) hd kk
theorem ws_m_versionValue (C : wc_C p s m args c cc nL own Γ A) {j : Nat} {x : Int32} (hj : j < 512) (hd : decode cc pc = .ok (.iastore, 1)) (kk : wc_K p l e R s m args below meth c nL Γ A Q cells slots (pc + 1) vs (st) σ (wc_st μ 40 0 j x)) : wc_K p l e R s m args below meth c nL Γ A Q cells slots (pc) vs (.int x :: .int (nI j) :: .ref (Γ.2.2 (78)) :: st) σ μ :=
  wr_ist C (by omega) (wc_c_m_versionValue) (t0 := 0) rfl hj (by decide) (wc_set (by rw [wc_c_m_versionValue, wc_st_at]) (fun j hj => wc_o_VVAL hj)) hd kk
theorem wa_m_state (C : wc_C p s m args c cc nL own Γ A) {j : Nat} (hj : j < 5) (hd : decode cc pc = .ok (.iaload, 1)) (kk : wc_K p l e R s m args below meth c nL Γ A Q cells slots (pc + 1) vs (.int (μ 42 0 j) :: st) σ μ) : wc_K p l e R s m args below meth c nL Γ A Q cells slots (pc) vs (.int (nI j) :: .ref (Γ.2.2 (79)) :: st) σ μ :=
  wr_ild C (by omega) (wc_c_m_state) (t0 := 0) rfl hj (by decide) hd kk
theorem ws_m_state (C : wc_C p s m args c cc nL own Γ A) {j : Nat} {x : Int32} (hj : j < 5) (hd : decode cc pc = .ok (.iastore, 1)) (kk : wc_K p l e R s m args below meth c nL Γ A Q cells slots (pc + 1) vs (st) σ (wc_st μ 42 0 j x)) : wc_K p l e R s m args below meth c nL Γ A Q cells slots (pc) vs (.int x :: .int (nI j) :: .ref (Γ.2.2 (79)) :: st) σ μ :=
  wr_ist C (by omega) (wc_c_m_state) (t0 := 0) rfl hj (by decide) (wc_set (by rw [wc_c_m_state, wc_st_at]) (fun j hj => wc_o_RSTA hj)) hd kk
theorem wa_m_age (C : wc_C p s m args c cc nL own Γ A) {j : Nat} (hj : j < 5) (hd : decode cc pc = .ok (.iaload, 1)) (kk : wc_K p l e R s m args below meth c nL Γ A Q cells slots (pc + 1) vs (.int (μ 43 0 j) :: st) σ μ) : wc_K p l e R s m args below meth c nL Γ A Q cells slots (pc) vs (.int (nI j) :: .ref (Γ.2.2 (80)) :: st) σ μ :=
  wr_ild C (by omega) (wc_c_m_age) (t0 := 0) rfl hj (by decide) hd kk
theorem ws_m_age (C : wc_C p s m args c cc nL own Γ A) {j : Nat} {x : Int32} (hj : j < 5) (hd : decode cc pc = .ok (.iastore, 1)) (kk : wc_K p l e R s m args below meth c nL Γ A Q cells slots (pc + 1) vs (st) σ (wc_st μ 43 0 j x)) : wc_K p l e R s m args below meth c nL Γ A Q cells slots (pc) vs (.int x :: .int (nI j) :: .ref (Γ.2.2 (80)) :: st) σ μ :=
  wr_ist C (by omega) (wc_c_m_age) (t0 := 0) rfl hj (by decide) (wc_set (by rw [wc_c_m_age, wc_st_at]) (fun j hj => wc_o_AGE hj)) hd kk
theorem wa_m_stamp (C : wc_C p s m args c cc nL own Γ A) {j : Nat} (hj : j < 5) (hd : decode cc pc = .ok (.iaload, 1)) (kk : wc_K p l e R s m args below meth c nL Γ A Q cells slots (pc + 1) vs (.int (μ 44 0 j) :: st) σ μ) : wc_K p l e R s m args below meth c nL Γ A Q cells slots (pc) vs (.int (nI j) :: .ref (Γ.2.2 (81)) :: st) σ μ :=
  wr_ild C (by omega) (wc_c_m_stamp) (t0 := 0) rfl hj (by decide) hd kk
theorem ws_m_stamp (C : wc_C p s m args c cc nL own Γ A) {j : Nat} {x : Int32} (hj : j < 5) (hd : decode cc pc = .ok (.iastore, 1)) (kk : wc_K p l e R s m args below meth c nL Γ A Q cells slots (pc + 1) vs (st) σ (wc_st μ 44 0 j x)) : wc_K p l e R s m args below meth c nL Γ A Q cells slots (pc) vs (.int x :: .int (nI j) :: .ref (Γ.2.2 (81)) :: st) σ μ :=
  wr_ist C (by omega) (wc_c_m_stamp) (t0 := 0) rfl hj (by decide) (wc_set (by rw [wc_c_m_stamp, wc_st_at]) (fun j hj => wc_o_RSTP hj)) hd kk
theorem wa_m_floor (C : wc_C p s m args c cc nL own Γ A) {j : Nat} (hj : j < 5) (hd : decode cc pc = .ok (.iaload, 1)) (kk : wc_K p l e R s m args below meth c nL Γ A Q cells slots (pc + 1) vs (.int (μ 45 0 j) :: st) σ μ) : wc_K p l e R s m args below meth c nL Γ A Q cells slots (pc) vs (.int (nI j) :: .ref (Γ.2.2 (82)) :: st) σ μ :=
  wr_ild C (by omega) (wc_c_m_floor) (t0 := 0) rfl hj (by decide) hd kk
theorem ws_m_floor (C : wc_C p s m args c cc nL own Γ A) {j : Nat} {x : Int32} (hj : j < 5) (hd : decode cc pc = .ok (.iastore, 1)) (kk : wc_K p l e R s m args below meth c nL Γ A Q cells slots (pc + 1) vs (st) σ (wc_st μ 45 0 j x)) : wc_K p l e R s m args below meth c nL Γ A Q cells slots (pc) vs (.int x :: .int (nI j) :: .ref (Γ.2.2 (82)) :: st) σ μ :=
  wr_ist C (by omega) (wc_c_m_floor) (t0 := 0) rfl hj (by decide) (wc_set (by rw [wc_c_m_floor, wc_st_at]) (fun j hj => wc_o_RFLR hj)) hd kk
theorem wa_m_ended (C : wc_C p s m args c cc nL own Γ A) {j : Nat} (hj : j < 5) (hd : decode cc pc = .ok (.iaload, 1)) (kk : wc_K p l e R s m args below meth c nL Γ A Q cells slots (pc + 1) vs (.int (μ 46 0 j) :: st) σ μ) : wc_K p l e R s m args below meth c nL Γ A Q cells slots (pc) vs (.int (nI j) :: .ref (Γ.2.2 (83)) :: st) σ μ :=
  wr_ild C (by omega) (wc_c_m_ended) (t0 := 0) rfl hj (by decide) hd kk
theorem ws_m_ended (C : wc_C p s m args c cc nL own Γ A) {j : Nat} {x : Int32} (hj : j < 5) (hd : decode cc pc = .ok (.iastore, 1)) (kk : wc_K p l e R s m args below meth c nL Γ A Q cells slots (pc + 1) vs (st) σ (wc_st μ 46 0 j x)) : wc_K p l e R s m args below meth c nL Γ A Q cells slots (pc) vs (.int x :: .int (nI j) :: .ref (Γ.2.2 (83)) :: st) σ μ :=
  wr_ist C (by omega) (wc_c_m_ended) (t0 := 0) rfl hj (by decide) (wc_set (by rw [wc_c_m_ended, wc_st_at]) (fun j hj => wc_o_ENDED hj)) hd kk
theorem wa_m_lock (C : wc_C p s m args c cc nL own Γ A) {j : Nat} (hj : j < 45) (hd : decode cc pc = .ok (.iaload, 1)) (kk : wc_K p l e R s m args below meth c nL Γ A Q cells slots (pc + 1) vs (.int (μ 47 0 j) :: st) σ μ) : wc_K p l e R s m args below meth c nL Γ A Q cells slots (pc) vs (.int (nI j) :: .ref (Γ.2.2 (84)) :: st) σ μ :=
  wr_ild C (by omega) (wc_c_m_lock) (t0 := 0) rfl hj (by decide) hd kk
theorem ws_m_lock (C : wc_C p s m args c cc nL own Γ A) {j : Nat} {x : Int32} (hj : j < 45) (hd : decode cc pc = .ok (.iastore, 1)) (kk : wc_K p l e R s m args below meth c nL Γ A Q cells slots (pc + 1) vs (st) σ (wc_st μ 47 0 j x)) : wc_K p l e R s m args below meth c nL Γ A Q cells slots (pc) vs (.int x :: .int (nI j) :: .ref (Γ.2.2 (84)) :: st) σ μ :=
  wr_ist C (by omega) (wc_c_m_lock) (t0 := 0) rfl hj (by decide) (wc_set (by rw [wc_c_m_lock, wc_st_at]) (fun j hj => wc_o_LOCK hj)) hd kk
theorem wa_m_wrote (C : wc_C p s m args c cc nL own Γ A) {j : Nat} (hj : j < 45) (hd : decode cc pc = .ok (.baload, 1)) (kk : wc_K p l e R s m args below meth c nL Γ A Q cells slots (pc + 1) vs (.int (μ 48 0 j) :: st) σ μ) : wc_K p l e R s m args below meth c nL Γ A Q cells slots (pc) vs (.int (nI j) :: .ref (Γ.2.2 (85)) :: st) σ μ :=
  wr_zld C (by omega) (wc_c_m_wrote) (t0 := 1) rfl hj (by decide) hd kk
theorem ws_m_wrote (C : wc_C p s m args c cc nL own Γ A) {j : Nat} {x : Int32} (hx : vp_nar .boolean x = x) (hj : j < 45) (hd : decode cc pc = .ok (.bastore, 1)) (kk : wc_K p l e R s m args below meth c nL Γ A Q cells slots (pc + 1) vs (st) σ (wc_st μ 48 0 j x)) : wc_K p l e R s m args below meth c nL Γ A Q cells slots (pc) vs (.int x :: .int (nI j) :: .ref (Γ.2.2 (85)) :: st) σ μ :=
  wr_zst C (by omega) (wc_c_m_wrote) (t0 := 1) rfl hj (by decide) (wc_set (by rw [wc_c_m_wrote, wc_st_at]; rw [hx]) (fun j hj => wc_o_WROTE hj)) hd kk
theorem wa_m_value (C : wc_C p s m args c cc nL own Γ A) {j : Nat} (hj : j < 45) (hd : decode cc pc = .ok (.iaload, 1)) (kk : wc_K p l e R s m args below meth c nL Γ A Q cells slots (pc + 1) vs (.int (μ 49 0 j) :: st) σ μ) : wc_K p l e R s m args below meth c nL Γ A Q cells slots (pc) vs (.int (nI j) :: .ref (Γ.2.2 (86)) :: st) σ μ :=
  wr_ild C (by omega) (wc_c_m_value) (t0 := 0) rfl hj (by decide) hd kk
theorem ws_m_value (C : wc_C p s m args c cc nL own Γ A) {j : Nat} {x : Int32} (hj : j < 45) (hd : decode cc pc = .ok (.iastore, 1)) (kk : wc_K p l e R s m args below meth c nL Γ A Q cells slots (pc + 1) vs (st) σ (wc_st μ 49 0 j x)) : wc_K p l e R s m args below meth c nL Γ A Q cells slots (pc) vs (.int x :: .int (nI j) :: .ref (Γ.2.2 (86)) :: st) σ μ :=
  wr_ist C (by omega) (wc_c_m_value) (t0 := 0) rfl hj (by decide) (wc_set (by rw [wc_c_m_value, wc_st_at]) (fun j hj => wc_o_RVAL hj)) hd kk
theorem wa_m_marked (C : wc_C p s m args c cc nL own Γ A) {j : Nat} (hj : j < 15) (hd : decode cc pc = .ok (.baload, 1)) (kk : wc_K p l e R s m args below meth c nL Γ A Q cells slots (pc + 1) vs (.int (μ 50 0 j) :: st) σ μ) : wc_K p l e R s m args below meth c nL Γ A Q cells slots (pc) vs (.int (nI j) :: .ref (Γ.2.2 (87)) :: st) σ μ :=
  wr_zld C (by omega) (wc_c_m_marked) (t0 := 1) rfl hj (by decide) hd kk
theorem ws_m_marked (C : wc_C p s m args c cc nL own Γ A) {j : Nat} {x : Int32} (hx : vp_nar .boolean x = x) (hj : j < 15) (hd : decode cc pc = .ok (.bastore, 1)) (kk : wc_K p l e R s m args below meth c nL Γ A Q cells slots (pc + 1) vs (st) σ (wc_st μ 50 0 j x)) : wc_K p l e R s m args below meth c nL Γ A Q cells slots (pc) vs (.int x :: .int (nI j) :: .ref (Γ.2.2 (87)) :: st) σ μ :=
  wr_zst C (by omega) (wc_c_m_marked) (t0 := 1) rfl hj (by decide) (wc_set (by rw [wc_c_m_marked, wc_st_at]; rw [hx]) (fun j hj => wc_o_MARKED hj)) hd kk
theorem wa_m_mark (C : wc_C p s m args c cc nL own Γ A) {j : Nat} (hj : j < 15) (hd : decode cc pc = .ok (.iaload, 1)) (kk : wc_K p l e R s m args below meth c nL Γ A Q cells slots (pc + 1) vs (.int (μ 51 0 j) :: st) σ μ) : wc_K p l e R s m args below meth c nL Γ A Q cells slots (pc) vs (.int (nI j) :: .ref (Γ.2.2 (88)) :: st) σ μ :=
  wr_ild C (by omega) (wc_c_m_mark) (t0 := 0) rfl hj (by decide) hd kk
theorem ws_m_mark (C : wc_C p s m args c cc nL own Γ A) {j : Nat} {x : Int32} (hj : j < 15) (hd : decode cc pc = .ok (.iastore, 1)) (kk : wc_K p l e R s m args below meth c nL Γ A Q cells slots (pc + 1) vs (st) σ (wc_st μ 51 0 j x)) : wc_K p l e R s m args below meth c nL Γ A Q cells slots (pc) vs (.int x :: .int (nI j) :: .ref (Γ.2.2 (88)) :: st) σ μ :=
  wr_ist C (by omega) (wc_c_m_mark) (t0 := 0) rfl hj (by decide) (wc_set (by rw [wc_c_m_mark, wc_st_at]) (fun j hj => wc_o_MARK hj)) hd kk
theorem wa_m_arrives (C : wc_C p s m args c cc nL own Γ A) {j : Nat} (hj : j < 45) (hd : decode cc pc = .ok (.iaload, 1)) (kk : wc_K p l e R s m args below meth c nL Γ A Q cells slots (pc + 1) vs (.int (μ 53 0 j) :: st) σ μ) : wc_K p l e R s m args below meth c nL Γ A Q cells slots (pc) vs (.int (nI j) :: .ref (Γ.2.2 (89)) :: st) σ μ :=
  wr_ild C (by omega) (wc_c_m_arrives) (t0 := 0) rfl hj (by decide) hd kk
theorem ws_m_arrives (C : wc_C p s m args c cc nL own Γ A) {j : Nat} {x : Int32} (hj : j < 45) (hd : decode cc pc = .ok (.iastore, 1)) (kk : wc_K p l e R s m args below meth c nL Γ A Q cells slots (pc + 1) vs (st) σ (wc_st μ 53 0 j x)) : wc_K p l e R s m args below meth c nL Γ A Q cells slots (pc) vs (.int x :: .int (nI j) :: .ref (Γ.2.2 (89)) :: st) σ μ :=
  wr_ist C (by omega) (wc_c_m_arrives) (t0 := 0) rfl hj (by decide) (wc_set (by rw [wc_c_m_arrives, wc_st_at]) (fun j hj => wc_o_ARRV hj)) hd kk
theorem wa_m_number (C : wc_C p s m args c cc nL own Γ A) {j : Nat} (hj : j < 45) (hd : decode cc pc = .ok (.iaload, 1)) (kk : wc_K p l e R s m args below meth c nL Γ A Q cells slots (pc + 1) vs (.int (μ 54 0 j) :: st) σ μ) : wc_K p l e R s m args below meth c nL Γ A Q cells slots (pc) vs (.int (nI j) :: .ref (Γ.2.2 (90)) :: st) σ μ :=
  wr_ild C (by omega) (wc_c_m_number) (t0 := 0) rfl hj (by decide) hd kk
theorem ws_m_number (C : wc_C p s m args c cc nL own Γ A) {j : Nat} {x : Int32} (hj : j < 45) (hd : decode cc pc = .ok (.iastore, 1)) (kk : wc_K p l e R s m args below meth c nL Γ A Q cells slots (pc + 1) vs (st) σ (wc_st μ 54 0 j x)) : wc_K p l e R s m args below meth c nL Γ A Q cells slots (pc) vs (.int x :: .int (nI j) :: .ref (Γ.2.2 (90)) :: st) σ μ :=
  wr_ist C (by omega) (wc_c_m_number) (t0 := 0) rfl hj (by decide) (wc_set (by rw [wc_c_m_number, wc_st_at]) (fun j hj => wc_o_NUM hj)) hd kk
end WCF
end
section
theorem dS_init_0 : decode cS_init 0 = .ok (.aload_n 0, 1) := by decide +kernel
theorem dS_init_1 : decode cS_init 1 = .ok (.invokespecial 1, 3) := by decide +kernel
theorem dS_init_4 : decode cS_init 4 = .ok (.aload_n 0, 1) := by decide +kernel
theorem dS_init_5 : decode cS_init 5 = .ok (.iconst 0, 1) := by decide +kernel
theorem dS_init_6 : decode cS_init 6 = .ok (.putfield 7, 3) := by decide +kernel
theorem dS_init_9 : decode cS_init 9 = .ok (.aload_n 0, 1) := by decide +kernel
theorem dS_init_10 : decode cS_init 10 = .ok (.iconst 1, 1) := by decide +kernel
theorem dS_init_11 : decode cS_init 11 = .ok (.putfield 13, 3) := by decide +kernel
theorem dS_init_14 : decode cS_init 14 = .ok (.aload_n 0, 1) := by decide +kernel
theorem dS_init_15 : decode cS_init 15 = .ok (.iconst 0, 1) := by decide +kernel
theorem dS_init_16 : decode cS_init 16 = .ok (.putfield 17, 3) := by decide +kernel
theorem dS_init_19 : decode cS_init 19 = .ok (.aload_n 0, 1) := by decide +kernel
theorem dS_init_20 : decode cS_init 20 = .ok (.iload_n 1, 1) := by decide +kernel
theorem dS_init_21 : decode cS_init 21 = .ok (.putfield 20, 3) := by decide +kernel
theorem dS_init_24 : decode cS_init 24 = .ok (.aload_n 0, 1) := by decide +kernel
theorem dS_init_25 : decode cS_init 25 = .ok (.iload_n 1, 1) := by decide +kernel
theorem dS_init_26 : decode cS_init 26 = .ok (.putfield 23, 3) := by decide +kernel
theorem dS_init_29 : decode cS_init 29 = .ok (.return_, 1) := by decide +kernel
theorem dS_raiseBound_0 : decode cS_raiseBound 0 = .ok (.aload_n 0, 1) := by decide +kernel
theorem dS_raiseBound_1 : decode cS_raiseBound 1 = .ok (.aload_n 0, 1) := by decide +kernel
theorem dS_raiseBound_2 : decode cS_raiseBound 2 = .ok (.getfield 17, 3) := by decide +kernel
theorem dS_raiseBound_5 : decode cS_raiseBound 5 = .ok (.iload_n 1, 1) := by decide +kernel
theorem dS_raiseBound_6 : decode cS_raiseBound 6 = .ok (.invokestatic 26, 3) := by decide +kernel
theorem dS_raiseBound_9 : decode cS_raiseBound 9 = .ok (.putfield 17, 3) := by decide +kernel
theorem dS_raiseBound_12 : decode cS_raiseBound 12 = .ok (.return_, 1) := by decide +kernel
theorem dK_init_0 : decode cK_init 0 = .ok (.aload_n 0, 1) := by decide +kernel
theorem dK_init_1 : decode cK_init 1 = .ok (.invokespecial 3, 3) := by decide +kernel
theorem dK_init_4 : decode cK_init 4 = .ok (.aload_n 0, 1) := by decide +kernel
theorem dK_init_5 : decode cK_init 5 = .ok (.iconst 4, 1) := by decide +kernel
theorem dK_init_6 : decode cK_init 6 = .ok (.newarray .int, 2) := by decide +kernel
theorem dK_init_8 : decode cK_init 8 = .ok (.putfield 9, 3) := by decide +kernel
theorem dK_init_11 : decode cK_init 11 = .ok (.aload_n 0, 1) := by decide +kernel
theorem dK_init_12 : decode cK_init 12 = .ok (.iconst 4, 1) := by decide +kernel
theorem dK_init_13 : decode cK_init 13 = .ok (.newarray .int, 2) := by decide +kernel
theorem dK_init_15 : decode cK_init 15 = .ok (.putfield 15, 3) := by decide +kernel
theorem dK_init_18 : decode cK_init 18 = .ok (.aload_n 0, 1) := by decide +kernel
theorem dK_init_19 : decode cK_init 19 = .ok (.iconst 1, 1) := by decide +kernel
theorem dK_init_20 : decode cK_init 20 = .ok (.putfield 18, 3) := by decide +kernel
theorem dK_init_23 : decode cK_init 23 = .ok (.return_, 1) := by decide +kernel
theorem dK_add_0 : decode cK_add 0 = .ok (.iconst 3, 1) := by decide +kernel
theorem dK_add_1 : decode cK_add 1 = .ok (.istore_n 3, 1) := by decide +kernel
theorem dK_add_2 : decode cK_add 2 = .ok (.iload_n 3, 1) := by decide +kernel
theorem dK_add_3 : decode cK_add 3 = .ok (.ifCond .le 37, 3) := by decide +kernel
theorem dK_add_6 : decode cK_add 6 = .ok (.aload_n 0, 1) := by decide +kernel
theorem dK_add_7 : decode cK_add 7 = .ok (.getfield 9, 3) := by decide +kernel
theorem dK_add_10 : decode cK_add 10 = .ok (.iload_n 3, 1) := by decide +kernel
theorem dK_add_11 : decode cK_add 11 = .ok (.aload_n 0, 1) := by decide +kernel
theorem dK_add_12 : decode cK_add 12 = .ok (.getfield 9, 3) := by decide +kernel
theorem dK_add_15 : decode cK_add 15 = .ok (.iload_n 3, 1) := by decide +kernel
theorem dK_add_16 : decode cK_add 16 = .ok (.iconst 1, 1) := by decide +kernel
theorem dK_add_17 : decode cK_add 17 = .ok (.isub, 1) := by decide +kernel
theorem dK_add_18 : decode cK_add 18 = .ok (.iaload, 1) := by decide +kernel
theorem dK_add_19 : decode cK_add 19 = .ok (.iastore, 1) := by decide +kernel
theorem dK_add_20 : decode cK_add 20 = .ok (.aload_n 0, 1) := by decide +kernel
theorem dK_add_21 : decode cK_add 21 = .ok (.getfield 15, 3) := by decide +kernel
theorem dK_add_24 : decode cK_add 24 = .ok (.iload_n 3, 1) := by decide +kernel
theorem dK_add_25 : decode cK_add 25 = .ok (.aload_n 0, 1) := by decide +kernel
theorem dK_add_26 : decode cK_add 26 = .ok (.getfield 15, 3) := by decide +kernel
theorem dK_add_29 : decode cK_add 29 = .ok (.iload_n 3, 1) := by decide +kernel
theorem dK_add_30 : decode cK_add 30 = .ok (.iconst 1, 1) := by decide +kernel
theorem dK_add_31 : decode cK_add 31 = .ok (.isub, 1) := by decide +kernel
theorem dK_add_32 : decode cK_add 32 = .ok (.iaload, 1) := by decide +kernel
theorem dK_add_33 : decode cK_add 33 = .ok (.iastore, 1) := by decide +kernel
theorem dK_add_34 : decode cK_add 34 = .ok (.iinc 3 (-1), 3) := by decide +kernel
theorem dK_add_37 : decode cK_add 37 = .ok (.goto (-35), 3) := by decide +kernel
theorem dK_add_40 : decode cK_add 40 = .ok (.aload_n 0, 1) := by decide +kernel
theorem dK_add_41 : decode cK_add 41 = .ok (.getfield 9, 3) := by decide +kernel
theorem dK_add_44 : decode cK_add 44 = .ok (.iconst 0, 1) := by decide +kernel
theorem dK_add_45 : decode cK_add 45 = .ok (.iload_n 1, 1) := by decide +kernel
theorem dK_add_46 : decode cK_add 46 = .ok (.iastore, 1) := by decide +kernel
theorem dK_add_47 : decode cK_add 47 = .ok (.aload_n 0, 1) := by decide +kernel
theorem dK_add_48 : decode cK_add 48 = .ok (.getfield 15, 3) := by decide +kernel
theorem dK_add_51 : decode cK_add 51 = .ok (.iconst 0, 1) := by decide +kernel
theorem dK_add_52 : decode cK_add 52 = .ok (.iload_n 2, 1) := by decide +kernel
theorem dK_add_53 : decode cK_add 53 = .ok (.iastore, 1) := by decide +kernel
theorem dK_add_54 : decode cK_add 54 = .ok (.aload_n 0, 1) := by decide +kernel
theorem dK_add_55 : decode cK_add 55 = .ok (.aload_n 0, 1) := by decide +kernel
theorem dK_add_56 : decode cK_add 56 = .ok (.getfield 18, 3) := by decide +kernel
theorem dK_add_59 : decode cK_add 59 = .ok (.iconst 1, 1) := by decide +kernel
theorem dK_add_60 : decode cK_add 60 = .ok (.iadd, 1) := by decide +kernel
theorem dK_add_61 : decode cK_add 61 = .ok (.iconst 4, 1) := by decide +kernel
theorem dK_add_62 : decode cK_add 62 = .ok (.invokestatic 22, 3) := by decide +kernel
theorem dK_add_65 : decode cK_add 65 = .ok (.putfield 18, 3) := by decide +kernel
theorem dK_add_68 : decode cK_add 68 = .ok (.return_, 1) := by decide +kernel
theorem dK_valueAt_0 : decode cK_valueAt 0 = .ok (.iconst 0, 1) := by decide +kernel
theorem dK_valueAt_1 : decode cK_valueAt 1 = .ok (.istore_n 2, 1) := by decide +kernel
theorem dK_valueAt_2 : decode cK_valueAt 2 = .ok (.iload_n 2, 1) := by decide +kernel
theorem dK_valueAt_3 : decode cK_valueAt 3 = .ok (.aload_n 0, 1) := by decide +kernel
theorem dK_valueAt_4 : decode cK_valueAt 4 = .ok (.getfield 18, 3) := by decide +kernel
theorem dK_valueAt_7 : decode cK_valueAt 7 = .ok (.if_icmp .ge 27, 3) := by decide +kernel
theorem dK_valueAt_10 : decode cK_valueAt 10 = .ok (.aload_n 0, 1) := by decide +kernel
theorem dK_valueAt_11 : decode cK_valueAt 11 = .ok (.getfield 15, 3) := by decide +kernel
theorem dK_valueAt_14 : decode cK_valueAt 14 = .ok (.iload_n 2, 1) := by decide +kernel
theorem dK_valueAt_15 : decode cK_valueAt 15 = .ok (.iaload, 1) := by decide +kernel
theorem dK_valueAt_16 : decode cK_valueAt 16 = .ok (.iload_n 1, 1) := by decide +kernel
theorem dK_valueAt_17 : decode cK_valueAt 17 = .ok (.if_icmp .gt 11, 3) := by decide +kernel
theorem dK_valueAt_20 : decode cK_valueAt 20 = .ok (.aload_n 0, 1) := by decide +kernel
theorem dK_valueAt_21 : decode cK_valueAt 21 = .ok (.getfield 9, 3) := by decide +kernel
theorem dK_valueAt_24 : decode cK_valueAt 24 = .ok (.iload_n 2, 1) := by decide +kernel
theorem dK_valueAt_25 : decode cK_valueAt 25 = .ok (.iaload, 1) := by decide +kernel
theorem dK_valueAt_26 : decode cK_valueAt 26 = .ok (.i2l, 1) := by decide +kernel
theorem dK_valueAt_27 : decode cK_valueAt 27 = .ok (.lreturn, 1) := by decide +kernel
theorem dK_valueAt_28 : decode cK_valueAt 28 = .ok (.iinc 2 1, 3) := by decide +kernel
theorem dK_valueAt_31 : decode cK_valueAt 31 = .ok (.goto (-29), 3) := by decide +kernel
theorem dK_valueAt_34 : decode cK_valueAt 34 = .ok (.ldc2_w 28, 3) := by decide +kernel
theorem dK_valueAt_37 : decode cK_valueAt 37 = .ok (.lreturn, 1) := by decide +kernel
theorem dT_init_0 : decode cT_init 0 = .ok (.aload_n 0, 1) := by decide +kernel
theorem dT_init_1 : decode cT_init 1 = .ok (.invokespecial 3, 3) := by decide +kernel
theorem dT_init_4 : decode cT_init 4 = .ok (.aload_n 0, 1) := by decide +kernel
theorem dT_init_5 : decode cT_init 5 = .ok (.iconst 0, 1) := by decide +kernel
theorem dT_init_6 : decode cT_init 6 = .ok (.putfield 9, 3) := by decide +kernel
theorem dT_init_9 : decode cT_init 9 = .ok (.aload_n 0, 1) := by decide +kernel
theorem dT_init_10 : decode cT_init 10 = .ok (.iconst 0, 1) := by decide +kernel
theorem dT_init_11 : decode cT_init 11 = .ok (.putfield 15, 3) := by decide +kernel
theorem dT_init_14 : decode cT_init 14 = .ok (.aload_n 0, 1) := by decide +kernel
theorem dT_init_15 : decode cT_init 15 = .ok (.iconst 0, 1) := by decide +kernel
theorem dT_init_16 : decode cT_init 16 = .ok (.putfield 18, 3) := by decide +kernel
theorem dT_init_19 : decode cT_init 19 = .ok (.aload_n 0, 1) := by decide +kernel
theorem dT_init_20 : decode cT_init 20 = .ok (.iconst 0, 1) := by decide +kernel
theorem dT_init_21 : decode cT_init 21 = .ok (.putfield 21, 3) := by decide +kernel
theorem dT_init_24 : decode cT_init 24 = .ok (.aload_n 0, 1) := by decide +kernel
theorem dT_init_25 : decode cT_init 25 = .ok (.iconst 0, 1) := by decide +kernel
theorem dT_init_26 : decode cT_init 26 = .ok (.putfield 24, 3) := by decide +kernel
theorem dT_init_29 : decode cT_init 29 = .ok (.aload_n 0, 1) := by decide +kernel
theorem dT_init_30 : decode cT_init 30 = .ok (.iconst 0, 1) := by decide +kernel
theorem dT_init_31 : decode cT_init 31 = .ok (.putfield 27, 3) := by decide +kernel
theorem dT_init_34 : decode cT_init 34 = .ok (.aload_n 0, 1) := by decide +kernel
theorem dT_init_35 : decode cT_init 35 = .ok (.iconst 0, 1) := by decide +kernel
theorem dT_init_36 : decode cT_init 36 = .ok (.putfield 30, 3) := by decide +kernel
theorem dT_init_39 : decode cT_init 39 = .ok (.aload_n 0, 1) := by decide +kernel
theorem dT_init_40 : decode cT_init 40 = .ok (.bipush 9, 2) := by decide +kernel
theorem dT_init_42 : decode cT_init 42 = .ok (.newarray .int, 2) := by decide +kernel
theorem dT_init_44 : decode cT_init 44 = .ok (.putfield 33, 3) := by decide +kernel
theorem dT_init_47 : decode cT_init 47 = .ok (.aload_n 0, 1) := by decide +kernel
theorem dT_init_48 : decode cT_init 48 = .ok (.bipush 9, 2) := by decide +kernel
theorem dT_init_50 : decode cT_init 50 = .ok (.newarray .int, 2) := by decide +kernel
theorem dT_init_52 : decode cT_init 52 = .ok (.putfield 37, 3) := by decide +kernel
theorem dT_init_55 : decode cT_init 55 = .ok (.aload_n 0, 1) := by decide +kernel
theorem dT_init_56 : decode cT_init 56 = .ok (.iconst 3, 1) := by decide +kernel
theorem dT_init_57 : decode cT_init 57 = .ok (.newarray .int, 2) := by decide +kernel
theorem dT_init_59 : decode cT_init 59 = .ok (.putfield 40, 3) := by decide +kernel
theorem dT_init_62 : decode cT_init 62 = .ok (.return_, 1) := by decide +kernel
theorem dT_holdsAt_0 : decode cT_holdsAt 0 = .ok (.iload_n 1, 1) := by decide +kernel
theorem dT_holdsAt_1 : decode cT_holdsAt 1 = .ok (.istore_n 2, 1) := by decide +kernel
theorem dT_holdsAt_2 : decode cT_holdsAt 2 = .ok (.iload_n 2, 1) := by decide +kernel
theorem dT_holdsAt_3 : decode cT_holdsAt 3 = .ok (.bipush 9, 2) := by decide +kernel
theorem dT_holdsAt_5 : decode cT_holdsAt 5 = .ok (.if_icmp .ge 20, 3) := by decide +kernel
theorem dT_holdsAt_8 : decode cT_holdsAt 8 = .ok (.aload_n 0, 1) := by decide +kernel
theorem dT_holdsAt_9 : decode cT_holdsAt 9 = .ok (.getfield 33, 3) := by decide +kernel
theorem dT_holdsAt_12 : decode cT_holdsAt 12 = .ok (.iload_n 2, 1) := by decide +kernel
theorem dT_holdsAt_13 : decode cT_holdsAt 13 = .ok (.iaload, 1) := by decide +kernel
theorem dT_holdsAt_14 : decode cT_holdsAt 14 = .ok (.ifCond .eq 5, 3) := by decide +kernel
theorem dT_holdsAt_17 : decode cT_holdsAt 17 = .ok (.iconst 1, 1) := by decide +kernel
theorem dT_holdsAt_18 : decode cT_holdsAt 18 = .ok (.ireturn, 1) := by decide +kernel
theorem dT_holdsAt_19 : decode cT_holdsAt 19 = .ok (.iinc 2 3, 3) := by decide +kernel
theorem dT_holdsAt_22 : decode cT_holdsAt 22 = .ok (.goto (-20), 3) := by decide +kernel
theorem dT_holdsAt_25 : decode cT_holdsAt 25 = .ok (.iconst 0, 1) := by decide +kernel
theorem dT_holdsAt_26 : decode cT_holdsAt 26 = .ok (.ireturn, 1) := by decide +kernel
theorem dT_leastParticipant_0 : decode cT_leastParticipant 0 = .ok (.iconst 0, 1) := by decide +kernel
theorem dT_leastParticipant_1 : decode cT_leastParticipant 1 = .ok (.istore_n 1, 1) := by decide +kernel
theorem dT_leastParticipant_2 : decode cT_leastParticipant 2 = .ok (.iload_n 1, 1) := by decide +kernel
theorem dT_leastParticipant_3 : decode cT_leastParticipant 3 = .ok (.iconst 3, 1) := by decide +kernel
theorem dT_leastParticipant_4 : decode cT_leastParticipant 4 = .ok (.if_icmp .ge 19, 3) := by decide +kernel
theorem dT_leastParticipant_7 : decode cT_leastParticipant 7 = .ok (.aload_n 0, 1) := by decide +kernel
theorem dT_leastParticipant_8 : decode cT_leastParticipant 8 = .ok (.iload_n 1, 1) := by decide +kernel
theorem dT_leastParticipant_9 : decode cT_leastParticipant 9 = .ok (.invokevirtual 43, 3) := by decide +kernel
theorem dT_leastParticipant_12 : decode cT_leastParticipant 12 = .ok (.ifCond .eq 5, 3) := by decide +kernel
theorem dT_leastParticipant_15 : decode cT_leastParticipant 15 = .ok (.iload_n 1, 1) := by decide +kernel
theorem dT_leastParticipant_16 : decode cT_leastParticipant 16 = .ok (.ireturn, 1) := by decide +kernel
theorem dT_leastParticipant_17 : decode cT_leastParticipant 17 = .ok (.iinc 1 1, 3) := by decide +kernel
theorem dT_leastParticipant_20 : decode cT_leastParticipant 20 = .ok (.goto (-18), 3) := by decide +kernel
theorem dT_leastParticipant_23 : decode cT_leastParticipant 23 = .ok (.iconst (-1), 1) := by decide +kernel
theorem dT_leastParticipant_24 : decode cT_leastParticipant 24 = .ok (.ireturn, 1) := by decide +kernel
theorem dT_unlockAt_0 : decode cT_unlockAt 0 = .ok (.iload_n 1, 1) := by decide +kernel
theorem dT_unlockAt_1 : decode cT_unlockAt 1 = .ok (.istore_n 2, 1) := by decide +kernel
theorem dT_unlockAt_2 : decode cT_unlockAt 2 = .ok (.iload_n 2, 1) := by decide +kernel
theorem dT_unlockAt_3 : decode cT_unlockAt 3 = .ok (.bipush 9, 2) := by decide +kernel
theorem dT_unlockAt_5 : decode cT_unlockAt 5 = .ok (.if_icmp .ge 16, 3) := by decide +kernel
theorem dT_unlockAt_8 : decode cT_unlockAt 8 = .ok (.aload_n 0, 1) := by decide +kernel
theorem dT_unlockAt_9 : decode cT_unlockAt 9 = .ok (.getfield 33, 3) := by decide +kernel
theorem dT_unlockAt_12 : decode cT_unlockAt 12 = .ok (.iload_n 2, 1) := by decide +kernel
theorem dT_unlockAt_13 : decode cT_unlockAt 13 = .ok (.iconst 0, 1) := by decide +kernel
theorem dT_unlockAt_14 : decode cT_unlockAt 14 = .ok (.iastore, 1) := by decide +kernel
theorem dT_unlockAt_15 : decode cT_unlockAt 15 = .ok (.iinc 2 3, 3) := by decide +kernel
theorem dT_unlockAt_18 : decode cT_unlockAt 18 = .ok (.goto (-16), 3) := by decide +kernel
theorem dT_unlockAt_21 : decode cT_unlockAt 21 = .ok (.return_, 1) := by decide +kernel
theorem dT_giveUp_0 : decode cT_giveUp 0 = .ok (.iconst 0, 1) := by decide +kernel
theorem dT_giveUp_1 : decode cT_giveUp 1 = .ok (.istore_n 1, 1) := by decide +kernel
theorem dT_giveUp_2 : decode cT_giveUp 2 = .ok (.iload_n 1, 1) := by decide +kernel
theorem dT_giveUp_3 : decode cT_giveUp 3 = .ok (.iconst 3, 1) := by decide +kernel
theorem dT_giveUp_4 : decode cT_giveUp 4 = .ok (.if_icmp .ge 14, 3) := by decide +kernel
theorem dT_giveUp_7 : decode cT_giveUp 7 = .ok (.aload_n 0, 1) := by decide +kernel
theorem dT_giveUp_8 : decode cT_giveUp 8 = .ok (.iload_n 1, 1) := by decide +kernel
theorem dT_giveUp_9 : decode cT_giveUp 9 = .ok (.invokevirtual 47, 3) := by decide +kernel
theorem dT_giveUp_12 : decode cT_giveUp 12 = .ok (.iinc 1 1, 3) := by decide +kernel
theorem dT_giveUp_15 : decode cT_giveUp 15 = .ok (.goto (-13), 3) := by decide +kernel
theorem dT_giveUp_18 : decode cT_giveUp 18 = .ok (.aload_n 0, 1) := by decide +kernel
theorem dT_giveUp_19 : decode cT_giveUp 19 = .ok (.iconst 5, 1) := by decide +kernel
theorem dT_giveUp_20 : decode cT_giveUp 20 = .ok (.putfield 9, 3) := by decide +kernel
theorem dT_giveUp_23 : decode cT_giveUp 23 = .ok (.return_, 1) := by decide +kernel
theorem dT_greatestMark_0 : decode cT_greatestMark 0 = .ok (.iconst 0, 1) := by decide +kernel
theorem dT_greatestMark_1 : decode cT_greatestMark 1 = .ok (.istore_n 1, 1) := by decide +kernel
theorem dT_greatestMark_2 : decode cT_greatestMark 2 = .ok (.iconst 0, 1) := by decide +kernel
theorem dT_greatestMark_3 : decode cT_greatestMark 3 = .ok (.istore_n 2, 1) := by decide +kernel
theorem dT_greatestMark_4 : decode cT_greatestMark 4 = .ok (.iload_n 2, 1) := by decide +kernel
theorem dT_greatestMark_5 : decode cT_greatestMark 5 = .ok (.iconst 3, 1) := by decide +kernel
theorem dT_greatestMark_6 : decode cT_greatestMark 6 = .ok (.if_icmp .ge 20, 3) := by decide +kernel
theorem dT_greatestMark_9 : decode cT_greatestMark 9 = .ok (.iload_n 1, 1) := by decide +kernel
theorem dT_greatestMark_10 : decode cT_greatestMark 10 = .ok (.aload_n 0, 1) := by decide +kernel
theorem dT_greatestMark_11 : decode cT_greatestMark 11 = .ok (.getfield 40, 3) := by decide +kernel
theorem dT_greatestMark_14 : decode cT_greatestMark 14 = .ok (.iload_n 2, 1) := by decide +kernel
theorem dT_greatestMark_15 : decode cT_greatestMark 15 = .ok (.iaload, 1) := by decide +kernel
theorem dT_greatestMark_16 : decode cT_greatestMark 16 = .ok (.invokestatic 51, 3) := by decide +kernel
theorem dT_greatestMark_19 : decode cT_greatestMark 19 = .ok (.istore_n 1, 1) := by decide +kernel
theorem dT_greatestMark_20 : decode cT_greatestMark 20 = .ok (.iinc 2 1, 3) := by decide +kernel
theorem dT_greatestMark_23 : decode cT_greatestMark 23 = .ok (.goto (-19), 3) := by decide +kernel
theorem dT_greatestMark_26 : decode cT_greatestMark 26 = .ok (.iload_n 1, 1) := by decide +kernel
theorem dT_greatestMark_27 : decode cT_greatestMark 27 = .ok (.ireturn, 1) := by decide +kernel
theorem dG_init_0 : decode cG_init 0 = .ok (.aload_n 0, 1) := by decide +kernel
theorem dG_init_1 : decode cG_init 1 = .ok (.invokespecial 3, 3) := by decide +kernel
theorem dG_init_4 : decode cG_init 4 = .ok (.aload_n 0, 1) := by decide +kernel
theorem dG_init_5 : decode cG_init 5 = .ok (.iconst 0, 1) := by decide +kernel
theorem dG_init_6 : decode cG_init 6 = .ok (.putfield 9, 3) := by decide +kernel
theorem dG_init_9 : decode cG_init 9 = .ok (.aload_n 0, 1) := by decide +kernel
theorem dG_init_10 : decode cG_init 10 = .ok (.iconst 0, 1) := by decide +kernel
theorem dG_init_11 : decode cG_init 11 = .ok (.putfield 15, 3) := by decide +kernel
theorem dG_init_14 : decode cG_init 14 = .ok (.aload_n 0, 1) := by decide +kernel
theorem dG_init_15 : decode cG_init 15 = .ok (.iconst 0, 1) := by decide +kernel
theorem dG_init_16 : decode cG_init 16 = .ok (.putfield 18, 3) := by decide +kernel
theorem dG_init_19 : decode cG_init 19 = .ok (.aload_n 0, 1) := by decide +kernel
theorem dG_init_20 : decode cG_init 20 = .ok (.iconst 0, 1) := by decide +kernel
theorem dG_init_21 : decode cG_init 21 = .ok (.putfield 21, 3) := by decide +kernel
theorem dG_init_24 : decode cG_init 24 = .ok (.aload_n 0, 1) := by decide +kernel
theorem dG_init_25 : decode cG_init 25 = .ok (.iload_n 1, 1) := by decide +kernel
theorem dG_init_26 : decode cG_init 26 = .ok (.putfield 24, 3) := by decide +kernel
theorem dG_init_29 : decode cG_init 29 = .ok (.aload_n 0, 1) := by decide +kernel
theorem dG_init_30 : decode cG_init 30 = .ok (.iload_n 2, 1) := by decide +kernel
theorem dG_init_31 : decode cG_init 31 = .ok (.putfield 27, 3) := by decide +kernel
theorem dG_init_34 : decode cG_init 34 = .ok (.return_, 1) := by decide +kernel
theorem dG_comesBefore_0 : decode cG_comesBefore 0 = .ok (.aload_n 0, 1) := by decide +kernel
theorem dG_comesBefore_1 : decode cG_comesBefore 1 = .ok (.getfield 18, 3) := by decide +kernel
theorem dG_comesBefore_4 : decode cG_comesBefore 4 = .ok (.aload_n 1, 1) := by decide +kernel
theorem dG_comesBefore_5 : decode cG_comesBefore 5 = .ok (.getfield 18, 3) := by decide +kernel
theorem dG_comesBefore_8 : decode cG_comesBefore 8 = .ok (.if_icmp .lt 25, 3) := by decide +kernel
theorem dG_comesBefore_11 : decode cG_comesBefore 11 = .ok (.aload_n 0, 1) := by decide +kernel
theorem dG_comesBefore_12 : decode cG_comesBefore 12 = .ok (.getfield 18, 3) := by decide +kernel
theorem dG_comesBefore_15 : decode cG_comesBefore 15 = .ok (.aload_n 1, 1) := by decide +kernel
theorem dG_comesBefore_16 : decode cG_comesBefore 16 = .ok (.getfield 18, 3) := by decide +kernel
theorem dG_comesBefore_19 : decode cG_comesBefore 19 = .ok (.if_icmp .ne 18, 3) := by decide +kernel
theorem dG_comesBefore_22 : decode cG_comesBefore 22 = .ok (.aload_n 0, 1) := by decide +kernel
theorem dG_comesBefore_23 : decode cG_comesBefore 23 = .ok (.getfield 21, 3) := by decide +kernel
theorem dG_comesBefore_26 : decode cG_comesBefore 26 = .ok (.aload_n 1, 1) := by decide +kernel
theorem dG_comesBefore_27 : decode cG_comesBefore 27 = .ok (.getfield 21, 3) := by decide +kernel
theorem dG_comesBefore_30 : decode cG_comesBefore 30 = .ok (.if_icmp .ge 7, 3) := by decide +kernel
theorem dG_comesBefore_33 : decode cG_comesBefore 33 = .ok (.iconst 1, 1) := by decide +kernel
theorem dG_comesBefore_34 : decode cG_comesBefore 34 = .ok (.goto 4, 3) := by decide +kernel
theorem dG_comesBefore_37 : decode cG_comesBefore 37 = .ok (.iconst 0, 1) := by decide +kernel
theorem dG_comesBefore_38 : decode cG_comesBefore 38 = .ok (.ireturn, 1) := by decide +kernel
end
section
theorem dW_init_0 : decode cW_init 0 = .ok (.aload_n 0, 1) := by decide +kernel
theorem dW_init_1 : decode cW_init 1 = .ok (.invokespecial 1, 3) := by decide +kernel
theorem dW_init_4 : decode cW_init 4 = .ok (.aload_n 0, 1) := by decide +kernel
theorem dW_init_5 : decode cW_init 5 = .ok (.iconst 3, 1) := by decide +kernel
theorem dW_init_6 : decode cW_init 6 = .ok (.anewarray 9, 3) := by decide +kernel
theorem dW_init_9 : decode cW_init 9 = .ok (.putfield 11, 3) := by decide +kernel
theorem dW_init_12 : decode cW_init 12 = .ok (.aload_n 0, 1) := by decide +kernel
theorem dW_init_13 : decode cW_init 13 = .ok (.bipush 9, 2) := by decide +kernel
theorem dW_init_15 : decode cW_init 15 = .ok (.anewarray 15, 3) := by decide +kernel
theorem dW_init_18 : decode cW_init 18 = .ok (.putfield 17, 3) := by decide +kernel
theorem dW_init_21 : decode cW_init 21 = .ok (.aload_n 0, 1) := by decide +kernel
theorem dW_init_22 : decode cW_init 22 = .ok (.iconst 5, 1) := by decide +kernel
theorem dW_init_23 : decode cW_init 23 = .ok (.anewarray 21, 3) := by decide +kernel
theorem dW_init_26 : decode cW_init 26 = .ok (.putfield 23, 3) := by decide +kernel
theorem dW_init_29 : decode cW_init 29 = .ok (.aload_n 0, 1) := by decide +kernel
theorem dW_init_30 : decode cW_init 30 = .ok (.bipush 15, 2) := by decide +kernel
theorem dW_init_32 : decode cW_init 32 = .ok (.anewarray 27, 3) := by decide +kernel
theorem dW_init_35 : decode cW_init 35 = .ok (.putfield 29, 3) := by decide +kernel
theorem dW_init_38 : decode cW_init 38 = .ok (.aload_n 0, 1) := by decide +kernel
theorem dW_init_39 : decode cW_init 39 = .ok (.iconst 0, 1) := by decide +kernel
theorem dW_init_40 : decode cW_init 40 = .ok (.putfield 33, 3) := by decide +kernel
theorem dW_init_43 : decode cW_init 43 = .ok (.aload_n 0, 1) := by decide +kernel
theorem dW_init_44 : decode cW_init 44 = .ok (.iconst 0, 1) := by decide +kernel
theorem dW_init_45 : decode cW_init 45 = .ok (.putfield 37, 3) := by decide +kernel
theorem dW_init_48 : decode cW_init 48 = .ok (.aload_n 0, 1) := by decide +kernel
theorem dW_init_49 : decode cW_init 49 = .ok (.iconst 0, 1) := by decide +kernel
theorem dW_init_50 : decode cW_init 50 = .ok (.putfield 40, 3) := by decide +kernel
theorem dW_init_53 : decode cW_init 53 = .ok (.aload_n 0, 1) := by decide +kernel
theorem dW_init_54 : decode cW_init 54 = .ok (.iconst 0, 1) := by decide +kernel
theorem dW_init_55 : decode cW_init 55 = .ok (.putfield 43, 3) := by decide +kernel
theorem dW_init_58 : decode cW_init 58 = .ok (.aload_n 0, 1) := by decide +kernel
theorem dW_init_59 : decode cW_init 59 = .ok (.iconst 0, 1) := by decide +kernel
theorem dW_init_60 : decode cW_init 60 = .ok (.iload_n 1, 1) := by decide +kernel
theorem dW_init_61 : decode cW_init 61 = .ok (.bipush 20, 2) := by decide +kernel
theorem dW_init_63 : decode cW_init 63 = .ok (.invokestatic 46, 3) := by decide +kernel
theorem dW_init_66 : decode cW_init 66 = .ok (.invokestatic 52, 3) := by decide +kernel
theorem dW_init_69 : decode cW_init 69 = .ok (.putfield 55, 3) := by decide +kernel
theorem dW_init_72 : decode cW_init 72 = .ok (.iconst 0, 1) := by decide +kernel
theorem dW_init_73 : decode cW_init 73 = .ok (.istore_n 2, 1) := by decide +kernel
theorem dW_init_74 : decode cW_init 74 = .ok (.iload_n 2, 1) := by decide +kernel
theorem dW_init_75 : decode cW_init 75 = .ok (.iconst 3, 1) := by decide +kernel
theorem dW_init_76 : decode cW_init 76 = .ok (.if_icmp .ge 26, 3) := by decide +kernel
theorem dW_init_79 : decode cW_init 79 = .ok (.aload_n 0, 1) := by decide +kernel
theorem dW_init_80 : decode cW_init 80 = .ok (.getfield 11, 3) := by decide +kernel
theorem dW_init_83 : decode cW_init 83 = .ok (.iload_n 2, 1) := by decide +kernel
theorem dW_init_84 : decode cW_init 84 = .ok (.new 9, 3) := by decide +kernel
theorem dW_init_87 : decode cW_init 87 = .ok (.dup, 1) := by decide +kernel
theorem dW_init_88 : decode cW_init 88 = .ok (.aload_n 0, 1) := by decide +kernel
theorem dW_init_89 : decode cW_init 89 = .ok (.getfield 55, 3) := by decide +kernel
theorem dW_init_92 : decode cW_init 92 = .ok (.invokespecial 58, 3) := by decide +kernel
theorem dW_init_95 : decode cW_init 95 = .ok (.aastore, 1) := by decide +kernel
theorem dW_init_96 : decode cW_init 96 = .ok (.iinc 2 1, 3) := by decide +kernel
theorem dW_init_99 : decode cW_init 99 = .ok (.goto (-25), 3) := by decide +kernel
theorem dW_init_102 : decode cW_init 102 = .ok (.iconst 0, 1) := by decide +kernel
theorem dW_init_103 : decode cW_init 103 = .ok (.istore_n 2, 1) := by decide +kernel
theorem dW_init_104 : decode cW_init 104 = .ok (.iload_n 2, 1) := by decide +kernel
theorem dW_init_105 : decode cW_init 105 = .ok (.bipush 9, 2) := by decide +kernel
theorem dW_init_107 : decode cW_init 107 = .ok (.if_icmp .ge 22, 3) := by decide +kernel
theorem dW_init_110 : decode cW_init 110 = .ok (.aload_n 0, 1) := by decide +kernel
theorem dW_init_111 : decode cW_init 111 = .ok (.getfield 17, 3) := by decide +kernel
theorem dW_init_114 : decode cW_init 114 = .ok (.iload_n 2, 1) := by decide +kernel
theorem dW_init_115 : decode cW_init 115 = .ok (.new 15, 3) := by decide +kernel
theorem dW_init_118 : decode cW_init 118 = .ok (.dup, 1) := by decide +kernel
theorem dW_init_119 : decode cW_init 119 = .ok (.invokespecial 61, 3) := by decide +kernel
theorem dW_init_122 : decode cW_init 122 = .ok (.aastore, 1) := by decide +kernel
theorem dW_init_123 : decode cW_init 123 = .ok (.iinc 2 1, 3) := by decide +kernel
theorem dW_init_126 : decode cW_init 126 = .ok (.goto (-22), 3) := by decide +kernel
theorem dW_init_129 : decode cW_init 129 = .ok (.iconst 0, 1) := by decide +kernel
theorem dW_init_130 : decode cW_init 130 = .ok (.istore_n 2, 1) := by decide +kernel
theorem dW_init_131 : decode cW_init 131 = .ok (.iload_n 2, 1) := by decide +kernel
theorem dW_init_132 : decode cW_init 132 = .ok (.iconst 5, 1) := by decide +kernel
theorem dW_init_133 : decode cW_init 133 = .ok (.if_icmp .ge 54, 3) := by decide +kernel
theorem dW_init_136 : decode cW_init 136 = .ok (.aload_n 0, 1) := by decide +kernel
theorem dW_init_137 : decode cW_init 137 = .ok (.getfield 23, 3) := by decide +kernel
theorem dW_init_140 : decode cW_init 140 = .ok (.iload_n 2, 1) := by decide +kernel
theorem dW_init_141 : decode cW_init 141 = .ok (.new 21, 3) := by decide +kernel
theorem dW_init_144 : decode cW_init 144 = .ok (.dup, 1) := by decide +kernel
theorem dW_init_145 : decode cW_init 145 = .ok (.invokespecial 62, 3) := by decide +kernel
theorem dW_init_148 : decode cW_init 148 = .ok (.aastore, 1) := by decide +kernel
theorem dW_init_149 : decode cW_init 149 = .ok (.iconst 0, 1) := by decide +kernel
theorem dW_init_150 : decode cW_init 150 = .ok (.istore_n 3, 1) := by decide +kernel
theorem dW_init_151 : decode cW_init 151 = .ok (.iload_n 3, 1) := by decide +kernel
theorem dW_init_152 : decode cW_init 152 = .ok (.iconst 3, 1) := by decide +kernel
theorem dW_init_153 : decode cW_init 153 = .ok (.if_icmp .ge 28, 3) := by decide +kernel
theorem dW_init_156 : decode cW_init 156 = .ok (.aload_n 0, 1) := by decide +kernel
theorem dW_init_157 : decode cW_init 157 = .ok (.getfield 29, 3) := by decide +kernel
theorem dW_init_160 : decode cW_init 160 = .ok (.iload_n 2, 1) := by decide +kernel
theorem dW_init_161 : decode cW_init 161 = .ok (.iconst 3, 1) := by decide +kernel
theorem dW_init_162 : decode cW_init 162 = .ok (.imul, 1) := by decide +kernel
theorem dW_init_163 : decode cW_init 163 = .ok (.iload_n 3, 1) := by decide +kernel
theorem dW_init_164 : decode cW_init 164 = .ok (.iadd, 1) := by decide +kernel
theorem dW_init_165 : decode cW_init 165 = .ok (.new 27, 3) := by decide +kernel
theorem dW_init_168 : decode cW_init 168 = .ok (.dup, 1) := by decide +kernel
theorem dW_init_169 : decode cW_init 169 = .ok (.iload_n 2, 1) := by decide +kernel
theorem dW_init_170 : decode cW_init 170 = .ok (.iload_n 3, 1) := by decide +kernel
theorem dW_init_171 : decode cW_init 171 = .ok (.invokespecial 63, 3) := by decide +kernel
theorem dW_init_174 : decode cW_init 174 = .ok (.aastore, 1) := by decide +kernel
theorem dW_init_175 : decode cW_init 175 = .ok (.iinc 3 1, 3) := by decide +kernel
theorem dW_init_178 : decode cW_init 178 = .ok (.goto (-27), 3) := by decide +kernel
theorem dW_init_181 : decode cW_init 181 = .ok (.iinc 2 1, 3) := by decide +kernel
theorem dW_init_184 : decode cW_init 184 = .ok (.goto (-53), 3) := by decide +kernel
theorem dW_init_187 : decode cW_init 187 = .ok (.return_, 1) := by decide +kernel
theorem dW_clock_0 : decode cW_clock 0 = .ok (.iload_n 1, 1) := by decide +kernel
theorem dW_clock_1 : decode cW_clock 1 = .ok (.invokestatic 66, 3) := by decide +kernel
theorem dW_clock_4 : decode cW_clock 4 = .ok (.ifCond .eq 19, 3) := by decide +kernel
theorem dW_clock_7 : decode cW_clock 7 = .ok (.aload_n 0, 1) := by decide +kernel
theorem dW_clock_8 : decode cW_clock 8 = .ok (.iload_n 2, 1) := by decide +kernel
theorem dW_clock_9 : decode cW_clock 9 = .ok (.invokevirtual 70, 3) := by decide +kernel
theorem dW_clock_12 : decode cW_clock 12 = .ok (.ifCond .eq 11, 3) := by decide +kernel
theorem dW_clock_15 : decode cW_clock 15 = .ok (.aload_n 0, 1) := by decide +kernel
theorem dW_clock_16 : decode cW_clock 16 = .ok (.iload_n 3, 1) := by decide +kernel
theorem dW_clock_17 : decode cW_clock 17 = .ok (.invokevirtual 70, 3) := by decide +kernel
theorem dW_clock_20 : decode cW_clock 20 = .ok (.ifCond .ne 5, 3) := by decide +kernel
theorem dW_clock_23 : decode cW_clock 23 = .ok (.iconst 0, 1) := by decide +kernel
theorem dW_clock_24 : decode cW_clock 24 = .ok (.ireturn, 1) := by decide +kernel
theorem dW_clock_25 : decode cW_clock 25 = .ok (.aload_n 0, 1) := by decide +kernel
theorem dW_clock_26 : decode cW_clock 26 = .ok (.getfield 11, 3) := by decide +kernel
theorem dW_clock_29 : decode cW_clock 29 = .ok (.iload_n 1, 1) := by decide +kernel
theorem dW_clock_30 : decode cW_clock 30 = .ok (.aaload, 1) := by decide +kernel
theorem dW_clock_31 : decode cW_clock 31 = .ok (.iload_n 2, 1) := by decide +kernel
theorem dW_clock_32 : decode cW_clock 32 = .ok (.putfield 73, 3) := by decide +kernel
theorem dW_clock_35 : decode cW_clock 35 = .ok (.aload_n 0, 1) := by decide +kernel
theorem dW_clock_36 : decode cW_clock 36 = .ok (.getfield 11, 3) := by decide +kernel
theorem dW_clock_39 : decode cW_clock 39 = .ok (.iload_n 1, 1) := by decide +kernel
theorem dW_clock_40 : decode cW_clock 40 = .ok (.aaload, 1) := by decide +kernel
theorem dW_clock_41 : decode cW_clock 41 = .ok (.iload_n 3, 1) := by decide +kernel
theorem dW_clock_42 : decode cW_clock 42 = .ok (.putfield 76, 3) := by decide +kernel
theorem dW_clock_45 : decode cW_clock 45 = .ok (.iconst 1, 1) := by decide +kernel
theorem dW_clock_46 : decode cW_clock 46 = .ok (.ireturn, 1) := by decide +kernel
theorem dW_delay_0 : decode cW_delay 0 = .ok (.iload_n 1, 1) := by decide +kernel
theorem dW_delay_1 : decode cW_delay 1 = .ok (.invokestatic 66, 3) := by decide +kernel
theorem dW_delay_4 : decode cW_delay 4 = .ok (.ifCond .eq 13, 3) := by decide +kernel
theorem dW_delay_7 : decode cW_delay 7 = .ok (.iload_n 2, 1) := by decide +kernel
theorem dW_delay_8 : decode cW_delay 8 = .ok (.ifCond .lt 9, 3) := by decide +kernel
theorem dW_delay_11 : decode cW_delay 11 = .ok (.iload_n 2, 1) := by decide +kernel
theorem dW_delay_12 : decode cW_delay 12 = .ok (.bipush 9, 2) := by decide +kernel
theorem dW_delay_14 : decode cW_delay 14 = .ok (.if_icmp .le 5, 3) := by decide +kernel
theorem dW_delay_17 : decode cW_delay 17 = .ok (.iconst 0, 1) := by decide +kernel
theorem dW_delay_18 : decode cW_delay 18 = .ok (.ireturn, 1) := by decide +kernel
theorem dW_delay_19 : decode cW_delay 19 = .ok (.aload_n 0, 1) := by decide +kernel
theorem dW_delay_20 : decode cW_delay 20 = .ok (.getfield 11, 3) := by decide +kernel
theorem dW_delay_23 : decode cW_delay 23 = .ok (.iload_n 1, 1) := by decide +kernel
theorem dW_delay_24 : decode cW_delay 24 = .ok (.aaload, 1) := by decide +kernel
theorem dW_delay_25 : decode cW_delay 25 = .ok (.iload_n 2, 1) := by decide +kernel
theorem dW_delay_26 : decode cW_delay 26 = .ok (.putfield 79, 3) := by decide +kernel
theorem dW_delay_29 : decode cW_delay 29 = .ok (.iconst 1, 1) := by decide +kernel
theorem dW_delay_30 : decode cW_delay 30 = .ok (.ireturn, 1) := by decide +kernel
theorem dW_power_0 : decode cW_power 0 = .ok (.iload_n 1, 1) := by decide +kernel
theorem dW_power_1 : decode cW_power 1 = .ok (.invokestatic 66, 3) := by decide +kernel
theorem dW_power_4 : decode cW_power 4 = .ok (.ifCond .eq 16, 3) := by decide +kernel
theorem dW_power_7 : decode cW_power 7 = .ok (.aload_n 0, 1) := by decide +kernel
theorem dW_power_8 : decode cW_power 8 = .ok (.getfield 11, 3) := by decide +kernel
theorem dW_power_11 : decode cW_power 11 = .ok (.iload_n 1, 1) := by decide +kernel
theorem dW_power_12 : decode cW_power 12 = .ok (.aaload, 1) := by decide +kernel
theorem dW_power_13 : decode cW_power 13 = .ok (.getfield 82, 3) := by decide +kernel
theorem dW_power_16 : decode cW_power 16 = .ok (.iload_n 2, 1) := by decide +kernel
theorem dW_power_17 : decode cW_power 17 = .ok (.if_icmp .ne 5, 3) := by decide +kernel
theorem dW_power_20 : decode cW_power 20 = .ok (.iconst 0, 1) := by decide +kernel
theorem dW_power_21 : decode cW_power 21 = .ok (.ireturn, 1) := by decide +kernel
theorem dW_power_22 : decode cW_power 22 = .ok (.aload_n 0, 1) := by decide +kernel
theorem dW_power_23 : decode cW_power 23 = .ok (.getfield 11, 3) := by decide +kernel
theorem dW_power_26 : decode cW_power 26 = .ok (.iload_n 1, 1) := by decide +kernel
theorem dW_power_27 : decode cW_power 27 = .ok (.aaload, 1) := by decide +kernel
theorem dW_power_28 : decode cW_power 28 = .ok (.iload_n 2, 1) := by decide +kernel
theorem dW_power_29 : decode cW_power 29 = .ok (.putfield 82, 3) := by decide +kernel
theorem dW_power_32 : decode cW_power 32 = .ok (.iconst 1, 1) := by decide +kernel
theorem dW_power_33 : decode cW_power 33 = .ok (.ireturn, 1) := by decide +kernel
theorem dW_begin_0 : decode cW_begin 0 = .ok (.iload_n 1, 1) := by decide +kernel
theorem dW_begin_1 : decode cW_begin 1 = .ok (.invokestatic 86, 3) := by decide +kernel
theorem dW_begin_4 : decode cW_begin 4 = .ok (.ifCond .eq 15, 3) := by decide +kernel
theorem dW_begin_7 : decode cW_begin 7 = .ok (.aload_n 0, 1) := by decide +kernel
theorem dW_begin_8 : decode cW_begin 8 = .ok (.getfield 23, 3) := by decide +kernel
theorem dW_begin_11 : decode cW_begin 11 = .ok (.iload_n 1, 1) := by decide +kernel
theorem dW_begin_12 : decode cW_begin 12 = .ok (.aaload, 1) := by decide +kernel
theorem dW_begin_13 : decode cW_begin 13 = .ok (.invokestatic 89, 3) := by decide +kernel
theorem dW_begin_16 : decode cW_begin 16 = .ok (.ifCond .ne 5, 3) := by decide +kernel
theorem dW_begin_19 : decode cW_begin 19 = .ok (.iconst 0, 1) := by decide +kernel
theorem dW_begin_20 : decode cW_begin 20 = .ok (.ireturn, 1) := by decide +kernel
theorem dW_begin_21 : decode cW_begin 21 = .ok (.aload_n 0, 1) := by decide +kernel
theorem dW_begin_22 : decode cW_begin 22 = .ok (.getfield 23, 3) := by decide +kernel
theorem dW_begin_25 : decode cW_begin 25 = .ok (.iload_n 1, 1) := by decide +kernel
theorem dW_begin_26 : decode cW_begin 26 = .ok (.aaload, 1) := by decide +kernel
theorem dW_begin_27 : decode cW_begin 27 = .ok (.iconst 1, 1) := by decide +kernel
theorem dW_begin_28 : decode cW_begin 28 = .ok (.putfield 93, 3) := by decide +kernel
theorem dW_begin_31 : decode cW_begin 31 = .ok (.aload_n 0, 1) := by decide +kernel
theorem dW_begin_32 : decode cW_begin 32 = .ok (.getfield 23, 3) := by decide +kernel
theorem dW_begin_35 : decode cW_begin 35 = .ok (.iload_n 1, 1) := by decide +kernel
theorem dW_begin_36 : decode cW_begin 36 = .ok (.aaload, 1) := by decide +kernel
theorem dW_begin_37 : decode cW_begin 37 = .ok (.aload_n 0, 1) := by decide +kernel
theorem dW_begin_38 : decode cW_begin 38 = .ok (.getfield 37, 3) := by decide +kernel
theorem dW_begin_41 : decode cW_begin 41 = .ok (.putfield 96, 3) := by decide +kernel
theorem dW_begin_44 : decode cW_begin 44 = .ok (.aload_n 0, 1) := by decide +kernel
theorem dW_begin_45 : decode cW_begin 45 = .ok (.dup, 1) := by decide +kernel
theorem dW_begin_46 : decode cW_begin 46 = .ok (.getfield 37, 3) := by decide +kernel
theorem dW_begin_49 : decode cW_begin 49 = .ok (.iconst 1, 1) := by decide +kernel
theorem dW_begin_50 : decode cW_begin 50 = .ok (.iadd, 1) := by decide +kernel
theorem dW_begin_51 : decode cW_begin 51 = .ok (.putfield 37, 3) := by decide +kernel
theorem dW_begin_54 : decode cW_begin 54 = .ok (.iconst 1, 1) := by decide +kernel
theorem dW_begin_55 : decode cW_begin 55 = .ok (.ireturn, 1) := by decide +kernel
theorem dW_read_0 : decode cW_read 0 = .ok (.aload_n 0, 1) := by decide +kernel
theorem dW_read_1 : decode cW_read 1 = .ok (.iload_n 1, 1) := by decide +kernel
theorem dW_read_2 : decode cW_read 2 = .ok (.invokevirtual 99, 3) := by decide +kernel
theorem dW_read_5 : decode cW_read 5 = .ok (.ifCond .eq 25, 3) := by decide +kernel
theorem dW_read_8 : decode cW_read 8 = .ok (.iload_n 2, 1) := by decide +kernel
theorem dW_read_9 : decode cW_read 9 = .ok (.invokestatic 102, 3) := by decide +kernel
theorem dW_read_12 : decode cW_read 12 = .ok (.ifCond .eq 18, 3) := by decide +kernel
theorem dW_read_15 : decode cW_read 15 = .ok (.aload_n 0, 1) := by decide +kernel
theorem dW_read_16 : decode cW_read 16 = .ok (.aload_n 0, 1) := by decide +kernel
theorem dW_read_17 : decode cW_read 17 = .ok (.getfield 23, 3) := by decide +kernel
theorem dW_read_20 : decode cW_read 20 = .ok (.iload_n 1, 1) := by decide +kernel
theorem dW_read_21 : decode cW_read 21 = .ok (.aaload, 1) := by decide +kernel
theorem dW_read_22 : decode cW_read 22 = .ok (.iload_n 2, 1) := by decide +kernel
theorem dW_read_23 : decode cW_read 23 = .ok (.iconst 1, 1) := by decide +kernel
theorem dW_read_24 : decode cW_read 24 = .ok (.invokevirtual 105, 3) := by decide +kernel
theorem dW_read_27 : decode cW_read 27 = .ok (.ifCond .ne 7, 3) := by decide +kernel
theorem dW_read_30 : decode cW_read 30 = .ok (.ldc2_w 109, 3) := by decide +kernel
theorem dW_read_33 : decode cW_read 33 = .ok (.lreturn, 1) := by decide +kernel
theorem dW_read_34 : decode cW_read 34 = .ok (.aload_n 0, 1) := by decide +kernel
theorem dW_read_35 : decode cW_read 35 = .ok (.getfield 23, 3) := by decide +kernel
theorem dW_read_38 : decode cW_read 38 = .ok (.iload_n 1, 1) := by decide +kernel
theorem dW_read_39 : decode cW_read 39 = .ok (.aaload, 1) := by decide +kernel
theorem dW_read_40 : decode cW_read 40 = .ok (.getfield 111, 3) := by decide +kernel
theorem dW_read_43 : decode cW_read 43 = .ok (.iload_n 2, 1) := by decide +kernel
theorem dW_read_44 : decode cW_read 44 = .ok (.iaload, 1) := by decide +kernel
theorem dW_read_45 : decode cW_read 45 = .ok (.iconst 2, 1) := by decide +kernel
theorem dW_read_46 : decode cW_read 46 = .ok (.if_icmp .ne 16, 3) := by decide +kernel
theorem dW_read_49 : decode cW_read 49 = .ok (.aload_n 0, 1) := by decide +kernel
theorem dW_read_50 : decode cW_read 50 = .ok (.getfield 23, 3) := by decide +kernel
theorem dW_read_53 : decode cW_read 53 = .ok (.iload_n 1, 1) := by decide +kernel
theorem dW_read_54 : decode cW_read 54 = .ok (.aaload, 1) := by decide +kernel
theorem dW_read_55 : decode cW_read 55 = .ok (.getfield 115, 3) := by decide +kernel
theorem dW_read_58 : decode cW_read 58 = .ok (.iload_n 2, 1) := by decide +kernel
theorem dW_read_59 : decode cW_read 59 = .ok (.iaload, 1) := by decide +kernel
theorem dW_read_60 : decode cW_read 60 = .ok (.i2l, 1) := by decide +kernel
theorem dW_read_61 : decode cW_read 61 = .ok (.lreturn, 1) := by decide +kernel
theorem dW_read_62 : decode cW_read 62 = .ok (.aload_n 0, 1) := by decide +kernel
theorem dW_read_63 : decode cW_read 63 = .ok (.getfield 17, 3) := by decide +kernel
theorem dW_read_66 : decode cW_read 66 = .ok (.iload_n 2, 1) := by decide +kernel
theorem dW_read_67 : decode cW_read 67 = .ok (.aaload, 1) := by decide +kernel
theorem dW_read_68 : decode cW_read 68 = .ok (.getfield 118, 3) := by decide +kernel
theorem dW_read_71 : decode cW_read 71 = .ok (.iconst 0, 1) := by decide +kernel
theorem dW_read_72 : decode cW_read 72 = .ok (.iaload, 1) := by decide +kernel
theorem dW_read_73 : decode cW_read 73 = .ok (.i2l, 1) := by decide +kernel
theorem dW_read_74 : decode cW_read 74 = .ok (.lreturn, 1) := by decide +kernel
theorem dW_write_0 : decode cW_write 0 = .ok (.aload_n 0, 1) := by decide +kernel
theorem dW_write_1 : decode cW_write 1 = .ok (.iload_n 1, 1) := by decide +kernel
theorem dW_write_2 : decode cW_write 2 = .ok (.invokevirtual 99, 3) := by decide +kernel
theorem dW_write_5 : decode cW_write 5 = .ok (.ifCond .eq 25, 3) := by decide +kernel
theorem dW_write_8 : decode cW_write 8 = .ok (.iload_n 2, 1) := by decide +kernel
theorem dW_write_9 : decode cW_write 9 = .ok (.invokestatic 102, 3) := by decide +kernel
theorem dW_write_12 : decode cW_write 12 = .ok (.ifCond .eq 18, 3) := by decide +kernel
theorem dW_write_15 : decode cW_write 15 = .ok (.aload_n 0, 1) := by decide +kernel
theorem dW_write_16 : decode cW_write 16 = .ok (.aload_n 0, 1) := by decide +kernel
theorem dW_write_17 : decode cW_write 17 = .ok (.getfield 23, 3) := by decide +kernel
theorem dW_write_20 : decode cW_write 20 = .ok (.iload_n 1, 1) := by decide +kernel
theorem dW_write_21 : decode cW_write 21 = .ok (.aaload, 1) := by decide +kernel
theorem dW_write_22 : decode cW_write 22 = .ok (.iload_n 2, 1) := by decide +kernel
theorem dW_write_23 : decode cW_write 23 = .ok (.iconst 2, 1) := by decide +kernel
theorem dW_write_24 : decode cW_write 24 = .ok (.invokevirtual 105, 3) := by decide +kernel
theorem dW_write_27 : decode cW_write 27 = .ok (.ifCond .ne 5, 3) := by decide +kernel
theorem dW_write_30 : decode cW_write 30 = .ok (.iconst 0, 1) := by decide +kernel
theorem dW_write_31 : decode cW_write 31 = .ok (.ireturn, 1) := by decide +kernel
theorem dW_write_32 : decode cW_write 32 = .ok (.aload_n 0, 1) := by decide +kernel
theorem dW_write_33 : decode cW_write 33 = .ok (.getfield 23, 3) := by decide +kernel
theorem dW_write_36 : decode cW_write 36 = .ok (.iload_n 1, 1) := by decide +kernel
theorem dW_write_37 : decode cW_write 37 = .ok (.aaload, 1) := by decide +kernel
theorem dW_write_38 : decode cW_write 38 = .ok (.getfield 115, 3) := by decide +kernel
theorem dW_write_41 : decode cW_write 41 = .ok (.iload_n 2, 1) := by decide +kernel
theorem dW_write_42 : decode cW_write 42 = .ok (.iload_n 3, 1) := by decide +kernel
theorem dW_write_43 : decode cW_write 43 = .ok (.iastore, 1) := by decide +kernel
theorem dW_write_44 : decode cW_write 44 = .ok (.iconst 1, 1) := by decide +kernel
theorem dW_write_45 : decode cW_write 45 = .ok (.ireturn, 1) := by decide +kernel
theorem dW_commit_0 : decode cW_commit 0 = .ok (.aload_n 0, 1) := by decide +kernel
theorem dW_commit_1 : decode cW_commit 1 = .ok (.iload_n 1, 1) := by decide +kernel
theorem dW_commit_2 : decode cW_commit 2 = .ok (.invokevirtual 99, 3) := by decide +kernel
theorem dW_commit_5 : decode cW_commit 5 = .ok (.ifCond .ne 5, 3) := by decide +kernel
theorem dW_commit_8 : decode cW_commit 8 = .ok (.iconst 0, 1) := by decide +kernel
theorem dW_commit_9 : decode cW_commit 9 = .ok (.ireturn, 1) := by decide +kernel
theorem dW_commit_10 : decode cW_commit 10 = .ok (.aload_n 0, 1) := by decide +kernel
theorem dW_commit_11 : decode cW_commit 11 = .ok (.getfield 23, 3) := by decide +kernel
theorem dW_commit_14 : decode cW_commit 14 = .ok (.iload_n 1, 1) := by decide +kernel
theorem dW_commit_15 : decode cW_commit 15 = .ok (.aaload, 1) := by decide +kernel
theorem dW_commit_16 : decode cW_commit 16 = .ok (.invokevirtual 121, 3) := by decide +kernel
theorem dW_commit_19 : decode cW_commit 19 = .ok (.istore_n 2, 1) := by decide +kernel
theorem dW_commit_20 : decode cW_commit 20 = .ok (.iload_n 2, 1) := by decide +kernel
theorem dW_commit_21 : decode cW_commit 21 = .ok (.iconst (-1), 1) := by decide +kernel
theorem dW_commit_22 : decode cW_commit 22 = .ok (.if_icmp .eq 15, 3) := by decide +kernel
theorem dW_commit_25 : decode cW_commit 25 = .ok (.aload_n 0, 1) := by decide +kernel
theorem dW_commit_26 : decode cW_commit 26 = .ok (.getfield 11, 3) := by decide +kernel
theorem dW_commit_29 : decode cW_commit 29 = .ok (.iload_n 2, 1) := by decide +kernel
theorem dW_commit_30 : decode cW_commit 30 = .ok (.aaload, 1) := by decide +kernel
theorem dW_commit_31 : decode cW_commit 31 = .ok (.getfield 82, 3) := by decide +kernel
theorem dW_commit_34 : decode cW_commit 34 = .ok (.ifCond .ne 5, 3) := by decide +kernel
theorem dW_commit_37 : decode cW_commit 37 = .ok (.iconst 0, 1) := by decide +kernel
theorem dW_commit_38 : decode cW_commit 38 = .ok (.ireturn, 1) := by decide +kernel
theorem dW_commit_39 : decode cW_commit 39 = .ok (.aload_n 0, 1) := by decide +kernel
theorem dW_commit_40 : decode cW_commit 40 = .ok (.getfield 23, 3) := by decide +kernel
theorem dW_commit_43 : decode cW_commit 43 = .ok (.iload_n 1, 1) := by decide +kernel
theorem dW_commit_44 : decode cW_commit 44 = .ok (.aaload, 1) := by decide +kernel
theorem dW_commit_45 : decode cW_commit 45 = .ok (.iload_n 2, 1) := by decide +kernel
theorem dW_commit_46 : decode cW_commit 46 = .ok (.putfield 125, 3) := by decide +kernel
theorem dW_commit_49 : decode cW_commit 49 = .ok (.aload_n 0, 1) := by decide +kernel
theorem dW_commit_50 : decode cW_commit 50 = .ok (.iload_n 1, 1) := by decide +kernel
theorem dW_commit_51 : decode cW_commit 51 = .ok (.invokevirtual 128, 3) := by decide +kernel
theorem dW_commit_54 : decode cW_commit 54 = .ok (.iconst 1, 1) := by decide +kernel
theorem dW_commit_55 : decode cW_commit 55 = .ok (.ireturn, 1) := by decide +kernel
theorem dW_abort_0 : decode cW_abort 0 = .ok (.aload_n 0, 1) := by decide +kernel
theorem dW_abort_1 : decode cW_abort 1 = .ok (.iload_n 1, 1) := by decide +kernel
theorem dW_abort_2 : decode cW_abort 2 = .ok (.invokevirtual 99, 3) := by decide +kernel
theorem dW_abort_5 : decode cW_abort 5 = .ok (.ifCond .ne 5, 3) := by decide +kernel
theorem dW_abort_8 : decode cW_abort 8 = .ok (.iconst 0, 1) := by decide +kernel
theorem dW_abort_9 : decode cW_abort 9 = .ok (.ireturn, 1) := by decide +kernel
theorem dW_abort_10 : decode cW_abort 10 = .ok (.aload_n 0, 1) := by decide +kernel
theorem dW_abort_11 : decode cW_abort 11 = .ok (.getfield 23, 3) := by decide +kernel
theorem dW_abort_14 : decode cW_abort 14 = .ok (.iload_n 1, 1) := by decide +kernel
theorem dW_abort_15 : decode cW_abort 15 = .ok (.aaload, 1) := by decide +kernel
theorem dW_abort_16 : decode cW_abort 16 = .ok (.invokevirtual 131, 3) := by decide +kernel
theorem dW_abort_19 : decode cW_abort 19 = .ok (.iconst 1, 1) := by decide +kernel
theorem dW_abort_20 : decode cW_abort 20 = .ok (.ireturn, 1) := by decide +kernel
theorem dW_readAt_0 : decode cW_readAt 0 = .ok (.iload_n 1, 1) := by decide +kernel
theorem dW_readAt_1 : decode cW_readAt 1 = .ok (.invokestatic 102, 3) := by decide +kernel
theorem dW_readAt_4 : decode cW_readAt 4 = .ok (.ifCond .eq 30, 3) := by decide +kernel
theorem dW_readAt_7 : decode cW_readAt 7 = .ok (.aload_n 0, 1) := by decide +kernel
theorem dW_readAt_8 : decode cW_readAt 8 = .ok (.getfield 11, 3) := by decide +kernel
theorem dW_readAt_11 : decode cW_readAt 11 = .ok (.iload_n 1, 1) := by decide +kernel
theorem dW_readAt_12 : decode cW_readAt 12 = .ok (.invokestatic 134, 3) := by decide +kernel
theorem dW_readAt_15 : decode cW_readAt 15 = .ok (.aaload, 1) := by decide +kernel
theorem dW_readAt_16 : decode cW_readAt 16 = .ok (.getfield 82, 3) := by decide +kernel
theorem dW_readAt_19 : decode cW_readAt 19 = .ok (.ifCond .eq 15, 3) := by decide +kernel
theorem dW_readAt_22 : decode cW_readAt 22 = .ok (.iload_n 2, 1) := by decide +kernel
theorem dW_readAt_23 : decode cW_readAt 23 = .ok (.aload_n 0, 1) := by decide +kernel
theorem dW_readAt_24 : decode cW_readAt 24 = .ok (.iload_n 1, 1) := by decide +kernel
theorem dW_readAt_25 : decode cW_readAt 25 = .ok (.invokestatic 134, 3) := by decide +kernel
theorem dW_readAt_28 : decode cW_readAt 28 = .ok (.invokevirtual 138, 3) := by decide +kernel
theorem dW_readAt_31 : decode cW_readAt 31 = .ok (.if_icmp .le 7, 3) := by decide +kernel
theorem dW_readAt_34 : decode cW_readAt 34 = .ok (.ldc2_w 109, 3) := by decide +kernel
theorem dW_readAt_37 : decode cW_readAt 37 = .ok (.lreturn, 1) := by decide +kernel
theorem dW_readAt_38 : decode cW_readAt 38 = .ok (.aload_n 0, 1) := by decide +kernel
theorem dW_readAt_39 : decode cW_readAt 39 = .ok (.getfield 11, 3) := by decide +kernel
theorem dW_readAt_42 : decode cW_readAt 42 = .ok (.iload_n 1, 1) := by decide +kernel
theorem dW_readAt_43 : decode cW_readAt 43 = .ok (.invokestatic 134, 3) := by decide +kernel
theorem dW_readAt_46 : decode cW_readAt 46 = .ok (.aaload, 1) := by decide +kernel
theorem dW_readAt_47 : decode cW_readAt 47 = .ok (.iload_n 2, 1) := by decide +kernel
theorem dW_readAt_48 : decode cW_readAt 48 = .ok (.invokevirtual 141, 3) := by decide +kernel
theorem dW_readAt_51 : decode cW_readAt 51 = .ok (.aload_n 0, 1) := by decide +kernel
theorem dW_readAt_52 : decode cW_readAt 52 = .ok (.getfield 17, 3) := by decide +kernel
theorem dW_readAt_55 : decode cW_readAt 55 = .ok (.iload_n 1, 1) := by decide +kernel
theorem dW_readAt_56 : decode cW_readAt 56 = .ok (.aaload, 1) := by decide +kernel
theorem dW_readAt_57 : decode cW_readAt 57 = .ok (.iload_n 2, 1) := by decide +kernel
theorem dW_readAt_58 : decode cW_readAt 58 = .ok (.invokevirtual 144, 3) := by decide +kernel
theorem dW_readAt_61 : decode cW_readAt 61 = .ok (.lreturn, 1) := by decide +kernel
theorem dW_step_0 : decode cW_step 0 = .ok (.iload_n 1, 1) := by decide +kernel
theorem dW_step_1 : decode cW_step 1 = .ok (.ifCond .lt 10, 3) := by decide +kernel
theorem dW_step_4 : decode cW_step 4 = .ok (.iload_n 1, 1) := by decide +kernel
theorem dW_step_5 : decode cW_step 5 = .ok (.sipush 500, 3) := by decide +kernel
theorem dW_step_8 : decode cW_step 8 = .ok (.if_icmp .le 5, 3) := by decide +kernel
theorem dW_step_11 : decode cW_step 11 = .ok (.iconst (-1), 1) := by decide +kernel
theorem dW_step_12 : decode cW_step 12 = .ok (.ireturn, 1) := by decide +kernel
theorem dW_step_13 : decode cW_step 13 = .ok (.iconst 0, 1) := by decide +kernel
theorem dW_step_14 : decode cW_step 14 = .ok (.istore_n 2, 1) := by decide +kernel
theorem dW_step_15 : decode cW_step 15 = .ok (.iconst 0, 1) := by decide +kernel
theorem dW_step_16 : decode cW_step 16 = .ok (.istore_n 3, 1) := by decide +kernel
theorem dW_step_17 : decode cW_step 17 = .ok (.iload_n 3, 1) := by decide +kernel
theorem dW_step_18 : decode cW_step 18 = .ok (.iload_n 1, 1) := by decide +kernel
theorem dW_step_19 : decode cW_step 19 = .ok (.if_icmp .ge 30, 3) := by decide +kernel
theorem dW_step_22 : decode cW_step 22 = .ok (.aload_n 0, 1) := by decide +kernel
theorem dW_step_23 : decode cW_step 23 = .ok (.dup, 1) := by decide +kernel
theorem dW_step_24 : decode cW_step 24 = .ok (.getfield 33, 3) := by decide +kernel
theorem dW_step_27 : decode cW_step 27 = .ok (.iconst 1, 1) := by decide +kernel
theorem dW_step_28 : decode cW_step 28 = .ok (.iadd, 1) := by decide +kernel
theorem dW_step_29 : decode cW_step 29 = .ok (.putfield 33, 3) := by decide +kernel
theorem dW_step_32 : decode cW_step 32 = .ok (.aload_n 0, 1) := by decide +kernel
theorem dW_step_33 : decode cW_step 33 = .ok (.invokevirtual 148, 3) := by decide +kernel
theorem dW_step_36 : decode cW_step 36 = .ok (.iload_n 2, 1) := by decide +kernel
theorem dW_step_37 : decode cW_step 37 = .ok (.aload_n 0, 1) := by decide +kernel
theorem dW_step_38 : decode cW_step 38 = .ok (.invokevirtual 151, 3) := by decide +kernel
theorem dW_step_41 : decode cW_step 41 = .ok (.iadd, 1) := by decide +kernel
theorem dW_step_42 : decode cW_step 42 = .ok (.istore_n 2, 1) := by decide +kernel
theorem dW_step_43 : decode cW_step 43 = .ok (.iinc 3 1, 3) := by decide +kernel
theorem dW_step_46 : decode cW_step 46 = .ok (.goto (-29), 3) := by decide +kernel
theorem dW_step_49 : decode cW_step 49 = .ok (.iload_n 2, 1) := by decide +kernel
theorem dW_step_50 : decode cW_step 50 = .ok (.ireturn, 1) := by decide +kernel
theorem dW_now_0 : decode cW_now 0 = .ok (.aload_n 0, 1) := by decide +kernel
theorem dW_now_1 : decode cW_now 1 = .ok (.getfield 33, 3) := by decide +kernel
theorem dW_now_4 : decode cW_now 4 = .ok (.ireturn, 1) := by decide +kernel
theorem dW_state_0 : decode cW_state 0 = .ok (.iload_n 1, 1) := by decide +kernel
theorem dW_state_1 : decode cW_state 1 = .ok (.invokestatic 86, 3) := by decide +kernel
theorem dW_state_4 : decode cW_state 4 = .ok (.ifCond .eq 15, 3) := by decide +kernel
theorem dW_state_7 : decode cW_state 7 = .ok (.aload_n 0, 1) := by decide +kernel
theorem dW_state_8 : decode cW_state 8 = .ok (.getfield 23, 3) := by decide +kernel
theorem dW_state_11 : decode cW_state 11 = .ok (.iload_n 1, 1) := by decide +kernel
theorem dW_state_12 : decode cW_state 12 = .ok (.aaload, 1) := by decide +kernel
theorem dW_state_13 : decode cW_state 13 = .ok (.getfield 93, 3) := by decide +kernel
theorem dW_state_16 : decode cW_state 16 = .ok (.goto 4, 3) := by decide +kernel
theorem dW_state_19 : decode cW_state 19 = .ok (.iconst (-1), 1) := by decide +kernel
theorem dW_state_20 : decode cW_state 20 = .ok (.ireturn, 1) := by decide +kernel
theorem dW_stamp_0 : decode cW_stamp 0 = .ok (.aload_n 0, 1) := by decide +kernel
theorem dW_stamp_1 : decode cW_stamp 1 = .ok (.iload_n 1, 1) := by decide +kernel
theorem dW_stamp_2 : decode cW_stamp 2 = .ok (.invokevirtual 154, 3) := by decide +kernel
theorem dW_stamp_5 : decode cW_stamp 5 = .ok (.istore_n 2, 1) := by decide +kernel
theorem dW_stamp_6 : decode cW_stamp 6 = .ok (.iload_n 2, 1) := by decide +kernel
theorem dW_stamp_7 : decode cW_stamp 7 = .ok (.iconst 3, 1) := by decide +kernel
theorem dW_stamp_8 : decode cW_stamp 8 = .ok (.if_icmp .eq 8, 3) := by decide +kernel
theorem dW_stamp_11 : decode cW_stamp 11 = .ok (.iload_n 2, 1) := by decide +kernel
theorem dW_stamp_12 : decode cW_stamp 12 = .ok (.iconst 4, 1) := by decide +kernel
theorem dW_stamp_13 : decode cW_stamp 13 = .ok (.if_icmp .ne 15, 3) := by decide +kernel
theorem dW_stamp_16 : decode cW_stamp 16 = .ok (.aload_n 0, 1) := by decide +kernel
theorem dW_stamp_17 : decode cW_stamp 17 = .ok (.getfield 23, 3) := by decide +kernel
theorem dW_stamp_20 : decode cW_stamp 20 = .ok (.iload_n 1, 1) := by decide +kernel
theorem dW_stamp_21 : decode cW_stamp 21 = .ok (.aaload, 1) := by decide +kernel
theorem dW_stamp_22 : decode cW_stamp 22 = .ok (.getfield 156, 3) := by decide +kernel
theorem dW_stamp_25 : decode cW_stamp 25 = .ok (.goto 4, 3) := by decide +kernel
theorem dW_stamp_28 : decode cW_stamp 28 = .ok (.iconst (-1), 1) := by decide +kernel
theorem dW_stamp_29 : decode cW_stamp 29 = .ok (.ireturn, 1) := by decide +kernel
theorem dW_end_0 : decode cW_end 0 = .ok (.aload_n 0, 1) := by decide +kernel
theorem dW_end_1 : decode cW_end 1 = .ok (.iload_n 1, 1) := by decide +kernel
theorem dW_end_2 : decode cW_end 2 = .ok (.invokevirtual 154, 3) := by decide +kernel
theorem dW_end_5 : decode cW_end 5 = .ok (.iconst 4, 1) := by decide +kernel
theorem dW_end_6 : decode cW_end 6 = .ok (.if_icmp .ne 15, 3) := by decide +kernel
theorem dW_end_9 : decode cW_end 9 = .ok (.aload_n 0, 1) := by decide +kernel
theorem dW_end_10 : decode cW_end 10 = .ok (.getfield 23, 3) := by decide +kernel
theorem dW_end_13 : decode cW_end 13 = .ok (.iload_n 1, 1) := by decide +kernel
theorem dW_end_14 : decode cW_end 14 = .ok (.aaload, 1) := by decide +kernel
theorem dW_end_15 : decode cW_end 15 = .ok (.getfield 159, 3) := by decide +kernel
theorem dW_end_18 : decode cW_end 18 = .ok (.goto 4, 3) := by decide +kernel
theorem dW_end_21 : decode cW_end 21 = .ok (.iconst (-1), 1) := by decide +kernel
theorem dW_end_22 : decode cW_end 22 = .ok (.ireturn, 1) := by decide +kernel
theorem dW_marks_0 : decode cW_marks 0 = .ok (.iload_n 1, 1) := by decide +kernel
theorem dW_marks_1 : decode cW_marks 1 = .ok (.invokestatic 66, 3) := by decide +kernel
theorem dW_marks_4 : decode cW_marks 4 = .ok (.ifCond .ne 5, 3) := by decide +kernel
theorem dW_marks_7 : decode cW_marks 7 = .ok (.iconst 0, 1) := by decide +kernel
theorem dW_marks_8 : decode cW_marks 8 = .ok (.ireturn, 1) := by decide +kernel
theorem dW_marks_9 : decode cW_marks 9 = .ok (.iconst 0, 1) := by decide +kernel
theorem dW_marks_10 : decode cW_marks 10 = .ok (.istore_n 2, 1) := by decide +kernel
theorem dW_marks_11 : decode cW_marks 11 = .ok (.iconst 0, 1) := by decide +kernel
theorem dW_marks_12 : decode cW_marks 12 = .ok (.istore_n 3, 1) := by decide +kernel
theorem dW_marks_13 : decode cW_marks 13 = .ok (.iload_n 3, 1) := by decide +kernel
theorem dW_marks_14 : decode cW_marks 14 = .ok (.iconst 5, 1) := by decide +kernel
theorem dW_marks_15 : decode cW_marks 15 = .ok (.if_icmp .ge 26, 3) := by decide +kernel
theorem dW_marks_18 : decode cW_marks 18 = .ok (.aload_n 0, 1) := by decide +kernel
theorem dW_marks_19 : decode cW_marks 19 = .ok (.getfield 23, 3) := by decide +kernel
theorem dW_marks_22 : decode cW_marks 22 = .ok (.iload_n 3, 1) := by decide +kernel
theorem dW_marks_23 : decode cW_marks 23 = .ok (.aaload, 1) := by decide +kernel
theorem dW_marks_24 : decode cW_marks 24 = .ok (.getfield 162, 3) := by decide +kernel
theorem dW_marks_27 : decode cW_marks 27 = .ok (.iload_n 1, 1) := by decide +kernel
theorem dW_marks_28 : decode cW_marks 28 = .ok (.iaload, 1) := by decide +kernel
theorem dW_marks_29 : decode cW_marks 29 = .ok (.ifCond .eq 6, 3) := by decide +kernel
theorem dW_marks_32 : decode cW_marks 32 = .ok (.iinc 2 1, 3) := by decide +kernel
theorem dW_marks_35 : decode cW_marks 35 = .ok (.iinc 3 1, 3) := by decide +kernel
theorem dW_marks_38 : decode cW_marks 38 = .ok (.goto (-25), 3) := by decide +kernel
theorem dW_marks_41 : decode cW_marks 41 = .ok (.iload_n 2, 1) := by decide +kernel
theorem dW_marks_42 : decode cW_marks 42 = .ok (.ifCond .ne 7, 3) := by decide +kernel
theorem dW_marks_45 : decode cW_marks 45 = .ok (.iconst 0, 1) := by decide +kernel
theorem dW_marks_46 : decode cW_marks 46 = .ok (.goto 13, 3) := by decide +kernel
theorem dW_marks_49 : decode cW_marks 49 = .ok (.iload_n 2, 1) := by decide +kernel
theorem dW_marks_50 : decode cW_marks 50 = .ok (.bipush 8, 2) := by decide +kernel
theorem dW_marks_52 : decode cW_marks 52 = .ok (.aload_n 0, 1) := by decide +kernel
theorem dW_marks_53 : decode cW_marks 53 = .ok (.iload_n 1, 1) := by decide +kernel
theorem dW_marks_54 : decode cW_marks 54 = .ok (.invokevirtual 165, 3) := by decide +kernel
theorem dW_marks_57 : decode cW_marks 57 = .ok (.imul, 1) := by decide +kernel
theorem dW_marks_58 : decode cW_marks 58 = .ok (.iadd, 1) := by decide +kernel
theorem dW_marks_59 : decode cW_marks 59 = .ok (.ireturn, 1) := by decide +kernel
theorem dW_safe_0 : decode cW_safe 0 = .ok (.iload_n 1, 1) := by decide +kernel
theorem dW_safe_1 : decode cW_safe 1 = .ok (.invokestatic 66, 3) := by decide +kernel
theorem dW_safe_4 : decode cW_safe 4 = .ok (.ifCond .eq 23, 3) := by decide +kernel
theorem dW_safe_7 : decode cW_safe 7 = .ok (.aload_n 0, 1) := by decide +kernel
theorem dW_safe_8 : decode cW_safe 8 = .ok (.getfield 11, 3) := by decide +kernel
theorem dW_safe_11 : decode cW_safe 11 = .ok (.iload_n 1, 1) := by decide +kernel
theorem dW_safe_12 : decode cW_safe 12 = .ok (.aaload, 1) := by decide +kernel
theorem dW_safe_13 : decode cW_safe 13 = .ok (.getfield 82, 3) := by decide +kernel
theorem dW_safe_16 : decode cW_safe 16 = .ok (.ifCond .eq 11, 3) := by decide +kernel
theorem dW_safe_19 : decode cW_safe 19 = .ok (.aload_n 0, 1) := by decide +kernel
theorem dW_safe_20 : decode cW_safe 20 = .ok (.iload_n 1, 1) := by decide +kernel
theorem dW_safe_21 : decode cW_safe 21 = .ok (.invokevirtual 138, 3) := by decide +kernel
theorem dW_safe_24 : decode cW_safe 24 = .ok (.goto 4, 3) := by decide +kernel
theorem dW_safe_27 : decode cW_safe 27 = .ok (.iconst (-1), 1) := by decide +kernel
theorem dW_safe_28 : decode cW_safe 28 = .ok (.ireturn, 1) := by decide +kernel
theorem dW_bound_0 : decode cW_bound 0 = .ok (.iload_n 1, 1) := by decide +kernel
theorem dW_bound_1 : decode cW_bound 1 = .ok (.invokestatic 66, 3) := by decide +kernel
theorem dW_bound_4 : decode cW_bound 4 = .ok (.ifCond .eq 15, 3) := by decide +kernel
theorem dW_bound_7 : decode cW_bound 7 = .ok (.aload_n 0, 1) := by decide +kernel
theorem dW_bound_8 : decode cW_bound 8 = .ok (.getfield 11, 3) := by decide +kernel
theorem dW_bound_11 : decode cW_bound 11 = .ok (.iload_n 1, 1) := by decide +kernel
theorem dW_bound_12 : decode cW_bound 12 = .ok (.aaload, 1) := by decide +kernel
theorem dW_bound_13 : decode cW_bound 13 = .ok (.getfield 168, 3) := by decide +kernel
theorem dW_bound_16 : decode cW_bound 16 = .ok (.goto 4, 3) := by decide +kernel
theorem dW_bound_19 : decode cW_bound 19 = .ok (.iconst (-1), 1) := by decide +kernel
theorem dW_bound_20 : decode cW_bound 20 = .ok (.ireturn, 1) := by decide +kernel
theorem dW_holders_0 : decode cW_holders 0 = .ok (.iload_n 1, 1) := by decide +kernel
theorem dW_holders_1 : decode cW_holders 1 = .ok (.invokestatic 102, 3) := by decide +kernel
theorem dW_holders_4 : decode cW_holders 4 = .ok (.ifCond .ne 5, 3) := by decide +kernel
theorem dW_holders_7 : decode cW_holders 7 = .ok (.iconst 0, 1) := by decide +kernel
theorem dW_holders_8 : decode cW_holders 8 = .ok (.ireturn, 1) := by decide +kernel
theorem dW_holders_9 : decode cW_holders 9 = .ok (.iconst 0, 1) := by decide +kernel
theorem dW_holders_10 : decode cW_holders 10 = .ok (.istore_n 2, 1) := by decide +kernel
theorem dW_holders_11 : decode cW_holders 11 = .ok (.iconst 0, 1) := by decide +kernel
theorem dW_holders_12 : decode cW_holders 12 = .ok (.istore_n 3, 1) := by decide +kernel
theorem dW_holders_13 : decode cW_holders 13 = .ok (.iload_n 3, 1) := by decide +kernel
theorem dW_holders_14 : decode cW_holders 14 = .ok (.iconst 5, 1) := by decide +kernel
theorem dW_holders_15 : decode cW_holders 15 = .ok (.if_icmp .ge 49, 3) := by decide +kernel
theorem dW_holders_18 : decode cW_holders 18 = .ok (.aload_n 0, 1) := by decide +kernel
theorem dW_holders_19 : decode cW_holders 19 = .ok (.getfield 23, 3) := by decide +kernel
theorem dW_holders_22 : decode cW_holders 22 = .ok (.iload_n 3, 1) := by decide +kernel
theorem dW_holders_23 : decode cW_holders 23 = .ok (.aaload, 1) := by decide +kernel
theorem dW_holders_24 : decode cW_holders 24 = .ok (.getfield 111, 3) := by decide +kernel
theorem dW_holders_27 : decode cW_holders 27 = .ok (.iload_n 1, 1) := by decide +kernel
theorem dW_holders_28 : decode cW_holders 28 = .ok (.iaload, 1) := by decide +kernel
theorem dW_holders_29 : decode cW_holders 29 = .ok (.ifCond .eq 9, 3) := by decide +kernel
theorem dW_holders_32 : decode cW_holders 32 = .ok (.iload_n 2, 1) := by decide +kernel
theorem dW_holders_33 : decode cW_holders 33 = .ok (.iconst 1, 1) := by decide +kernel
theorem dW_holders_34 : decode cW_holders 34 = .ok (.iload_n 3, 1) := by decide +kernel
theorem dW_holders_35 : decode cW_holders 35 = .ok (.ishl, 1) := by decide +kernel
theorem dW_holders_36 : decode cW_holders 36 = .ok (.ior, 1) := by decide +kernel
theorem dW_holders_37 : decode cW_holders 37 = .ok (.istore_n 2, 1) := by decide +kernel
theorem dW_holders_38 : decode cW_holders 38 = .ok (.aload_n 0, 1) := by decide +kernel
theorem dW_holders_39 : decode cW_holders 39 = .ok (.getfield 23, 3) := by decide +kernel
theorem dW_holders_42 : decode cW_holders 42 = .ok (.iload_n 3, 1) := by decide +kernel
theorem dW_holders_43 : decode cW_holders 43 = .ok (.aaload, 1) := by decide +kernel
theorem dW_holders_44 : decode cW_holders 44 = .ok (.getfield 111, 3) := by decide +kernel
theorem dW_holders_47 : decode cW_holders 47 = .ok (.iload_n 1, 1) := by decide +kernel
theorem dW_holders_48 : decode cW_holders 48 = .ok (.iaload, 1) := by decide +kernel
theorem dW_holders_49 : decode cW_holders 49 = .ok (.iconst 2, 1) := by decide +kernel
theorem dW_holders_50 : decode cW_holders 50 = .ok (.if_icmp .ne 8, 3) := by decide +kernel
theorem dW_holders_53 : decode cW_holders 53 = .ok (.iload_n 2, 1) := by decide +kernel
theorem dW_holders_54 : decode cW_holders 54 = .ok (.bipush 32, 2) := by decide +kernel
theorem dW_holders_56 : decode cW_holders 56 = .ok (.ior, 1) := by decide +kernel
theorem dW_holders_57 : decode cW_holders 57 = .ok (.istore_n 2, 1) := by decide +kernel
theorem dW_holders_58 : decode cW_holders 58 = .ok (.iinc 3 1, 3) := by decide +kernel
theorem dW_holders_61 : decode cW_holders 61 = .ok (.goto (-48), 3) := by decide +kernel
theorem dW_holders_64 : decode cW_holders 64 = .ok (.iload_n 2, 1) := by decide +kernel
theorem dW_holders_65 : decode cW_holders 65 = .ok (.ireturn, 1) := by decide +kernel
theorem dW_version_0 : decode cW_version 0 = .ok (.iload_n 1, 1) := by decide +kernel
theorem dW_version_1 : decode cW_version 1 = .ok (.invokestatic 102, 3) := by decide +kernel
theorem dW_version_4 : decode cW_version 4 = .ok (.ifCond .eq 20, 3) := by decide +kernel
theorem dW_version_7 : decode cW_version 7 = .ok (.iload_n 2, 1) := by decide +kernel
theorem dW_version_8 : decode cW_version 8 = .ok (.ifCond .lt 16, 3) := by decide +kernel
theorem dW_version_11 : decode cW_version 11 = .ok (.iload_n 2, 1) := by decide +kernel
theorem dW_version_12 : decode cW_version 12 = .ok (.aload_n 0, 1) := by decide +kernel
theorem dW_version_13 : decode cW_version 13 = .ok (.getfield 17, 3) := by decide +kernel
theorem dW_version_16 : decode cW_version 16 = .ok (.iload_n 1, 1) := by decide +kernel
theorem dW_version_17 : decode cW_version 17 = .ok (.aaload, 1) := by decide +kernel
theorem dW_version_18 : decode cW_version 18 = .ok (.getfield 171, 3) := by decide +kernel
theorem dW_version_21 : decode cW_version 21 = .ok (.if_icmp .lt 5, 3) := by decide +kernel
theorem dW_version_24 : decode cW_version 24 = .ok (.iconst (-1), 1) := by decide +kernel
theorem dW_version_25 : decode cW_version 25 = .ok (.ireturn, 1) := by decide +kernel
theorem dW_version_26 : decode cW_version 26 = .ok (.aload_n 0, 1) := by decide +kernel
theorem dW_version_27 : decode cW_version 27 = .ok (.getfield 17, 3) := by decide +kernel
theorem dW_version_30 : decode cW_version 30 = .ok (.iload_n 1, 1) := by decide +kernel
theorem dW_version_31 : decode cW_version 31 = .ok (.aaload, 1) := by decide +kernel
theorem dW_version_32 : decode cW_version 32 = .ok (.getfield 174, 3) := by decide +kernel
theorem dW_version_35 : decode cW_version 35 = .ok (.iload_n 2, 1) := by decide +kernel
theorem dW_version_36 : decode cW_version 36 = .ok (.iaload, 1) := by decide +kernel
theorem dW_version_37 : decode cW_version 37 = .ok (.ireturn, 1) := by decide +kernel
theorem dW_messages_0 : decode cW_messages 0 = .ok (.aload_n 0, 1) := by decide +kernel
theorem dW_messages_1 : decode cW_messages 1 = .ok (.getfield 43, 3) := by decide +kernel
theorem dW_messages_4 : decode cW_messages 4 = .ok (.ireturn, 1) := by decide +kernel
theorem dW_isSite_0 : decode cW_isSite 0 = .ok (.iload_n 0, 1) := by decide +kernel
theorem dW_isSite_1 : decode cW_isSite 1 = .ok (.ifCond .lt 12, 3) := by decide +kernel
theorem dW_isSite_4 : decode cW_isSite 4 = .ok (.iload_n 0, 1) := by decide +kernel
theorem dW_isSite_5 : decode cW_isSite 5 = .ok (.iconst 3, 1) := by decide +kernel
theorem dW_isSite_6 : decode cW_isSite 6 = .ok (.if_icmp .ge 7, 3) := by decide +kernel
theorem dW_isSite_9 : decode cW_isSite 9 = .ok (.iconst 1, 1) := by decide +kernel
theorem dW_isSite_10 : decode cW_isSite 10 = .ok (.goto 4, 3) := by decide +kernel
theorem dW_isSite_13 : decode cW_isSite 13 = .ok (.iconst 0, 1) := by decide +kernel
theorem dW_isSite_14 : decode cW_isSite 14 = .ok (.ireturn, 1) := by decide +kernel
theorem dW_isKey_0 : decode cW_isKey 0 = .ok (.iload_n 0, 1) := by decide +kernel
theorem dW_isKey_1 : decode cW_isKey 1 = .ok (.ifCond .lt 13, 3) := by decide +kernel
theorem dW_isKey_4 : decode cW_isKey 4 = .ok (.iload_n 0, 1) := by decide +kernel
theorem dW_isKey_5 : decode cW_isKey 5 = .ok (.bipush 9, 2) := by decide +kernel
theorem dW_isKey_7 : decode cW_isKey 7 = .ok (.if_icmp .ge 7, 3) := by decide +kernel
theorem dW_isKey_10 : decode cW_isKey 10 = .ok (.iconst 1, 1) := by decide +kernel
theorem dW_isKey_11 : decode cW_isKey 11 = .ok (.goto 4, 3) := by decide +kernel
theorem dW_isKey_14 : decode cW_isKey 14 = .ok (.iconst 0, 1) := by decide +kernel
theorem dW_isKey_15 : decode cW_isKey 15 = .ok (.ireturn, 1) := by decide +kernel
theorem dW_isTransaction_0 : decode cW_isTransaction 0 = .ok (.iload_n 0, 1) := by decide +kernel
theorem dW_isTransaction_1 : decode cW_isTransaction 1 = .ok (.ifCond .lt 12, 3) := by decide +kernel
theorem dW_isTransaction_4 : decode cW_isTransaction 4 = .ok (.iload_n 0, 1) := by decide +kernel
theorem dW_isTransaction_5 : decode cW_isTransaction 5 = .ok (.iconst 5, 1) := by decide +kernel
theorem dW_isTransaction_6 : decode cW_isTransaction 6 = .ok (.if_icmp .ge 7, 3) := by decide +kernel
theorem dW_isTransaction_9 : decode cW_isTransaction 9 = .ok (.iconst 1, 1) := by decide +kernel
theorem dW_isTransaction_10 : decode cW_isTransaction 10 = .ok (.goto 4, 3) := by decide +kernel
theorem dW_isTransaction_13 : decode cW_isTransaction 13 = .ok (.iconst 0, 1) := by decide +kernel
theorem dW_isTransaction_14 : decode cW_isTransaction 14 = .ok (.ireturn, 1) := by decide +kernel
theorem dW_siteOf_0 : decode cW_siteOf 0 = .ok (.iload_n 0, 1) := by decide +kernel
theorem dW_siteOf_1 : decode cW_siteOf 1 = .ok (.iconst 3, 1) := by decide +kernel
theorem dW_siteOf_2 : decode cW_siteOf 2 = .ok (.irem, 1) := by decide +kernel
theorem dW_siteOf_3 : decode cW_siteOf 3 = .ok (.ireturn, 1) := by decide +kernel
theorem dW_canBegin_0 : decode cW_canBegin 0 = .ok (.aload_n 0, 1) := by decide +kernel
theorem dW_canBegin_1 : decode cW_canBegin 1 = .ok (.getfield 93, 3) := by decide +kernel
theorem dW_canBegin_4 : decode cW_canBegin 4 = .ok (.iconst 4, 1) := by decide +kernel
theorem dW_canBegin_5 : decode cW_canBegin 5 = .ok (.if_icmp .ne 15, 3) := by decide +kernel
theorem dW_canBegin_8 : decode cW_canBegin 8 = .ok (.aload_n 0, 1) := by decide +kernel
theorem dW_canBegin_9 : decode cW_canBegin 9 = .ok (.invokevirtual 121, 3) := by decide +kernel
theorem dW_canBegin_12 : decode cW_canBegin 12 = .ok (.iconst (-1), 1) := by decide +kernel
theorem dW_canBegin_13 : decode cW_canBegin 13 = .ok (.if_icmp .ne 7, 3) := by decide +kernel
theorem dW_canBegin_16 : decode cW_canBegin 16 = .ok (.iconst 1, 1) := by decide +kernel
theorem dW_canBegin_17 : decode cW_canBegin 17 = .ok (.goto 4, 3) := by decide +kernel
theorem dW_canBegin_20 : decode cW_canBegin 20 = .ok (.iconst 0, 1) := by decide +kernel
theorem dW_canBegin_21 : decode cW_canBegin 21 = .ok (.istore_n 1, 1) := by decide +kernel
theorem dW_canBegin_22 : decode cW_canBegin 22 = .ok (.aload_n 0, 1) := by decide +kernel
theorem dW_canBegin_23 : decode cW_canBegin 23 = .ok (.getfield 93, 3) := by decide +kernel
theorem dW_canBegin_26 : decode cW_canBegin 26 = .ok (.ifCond .eq 15, 3) := by decide +kernel
theorem dW_canBegin_29 : decode cW_canBegin 29 = .ok (.aload_n 0, 1) := by decide +kernel
theorem dW_canBegin_30 : decode cW_canBegin 30 = .ok (.getfield 93, 3) := by decide +kernel
theorem dW_canBegin_33 : decode cW_canBegin 33 = .ok (.iconst 5, 1) := by decide +kernel
theorem dW_canBegin_34 : decode cW_canBegin 34 = .ok (.if_icmp .eq 7, 3) := by decide +kernel
theorem dW_canBegin_37 : decode cW_canBegin 37 = .ok (.iload_n 1, 1) := by decide +kernel
theorem dW_canBegin_38 : decode cW_canBegin 38 = .ok (.ifCond .eq 7, 3) := by decide +kernel
theorem dW_canBegin_41 : decode cW_canBegin 41 = .ok (.iconst 1, 1) := by decide +kernel
theorem dW_canBegin_42 : decode cW_canBegin 42 = .ok (.goto 4, 3) := by decide +kernel
theorem dW_canBegin_45 : decode cW_canBegin 45 = .ok (.iconst 0, 1) := by decide +kernel
theorem dW_canBegin_46 : decode cW_canBegin 46 = .ok (.ireturn, 1) := by decide +kernel
theorem dW_isError_0 : decode cW_isError 0 = .ok (.iload_n 1, 1) := by decide +kernel
theorem dW_isError_1 : decode cW_isError 1 = .ok (.ifCond .lt 15, 3) := by decide +kernel
theorem dW_isError_4 : decode cW_isError 4 = .ok (.iload_n 1, 1) := by decide +kernel
theorem dW_isError_5 : decode cW_isError 5 = .ok (.aload_n 0, 1) := by decide +kernel
theorem dW_isError_6 : decode cW_isError 6 = .ok (.getfield 55, 3) := by decide +kernel
theorem dW_isError_9 : decode cW_isError 9 = .ok (.if_icmp .gt 7, 3) := by decide +kernel
theorem dW_isError_12 : decode cW_isError 12 = .ok (.iconst 1, 1) := by decide +kernel
theorem dW_isError_13 : decode cW_isError 13 = .ok (.goto 4, 3) := by decide +kernel
theorem dW_isError_16 : decode cW_isError 16 = .ok (.iconst 0, 1) := by decide +kernel
theorem dW_isError_17 : decode cW_isError 17 = .ok (.ireturn, 1) := by decide +kernel
theorem dW_isActive_0 : decode cW_isActive 0 = .ok (.iload_n 1, 1) := by decide +kernel
theorem dW_isActive_1 : decode cW_isActive 1 = .ok (.invokestatic 86, 3) := by decide +kernel
theorem dW_isActive_4 : decode cW_isActive 4 = .ok (.ifCond .eq 20, 3) := by decide +kernel
theorem dW_isActive_7 : decode cW_isActive 7 = .ok (.aload_n 0, 1) := by decide +kernel
theorem dW_isActive_8 : decode cW_isActive 8 = .ok (.getfield 23, 3) := by decide +kernel
theorem dW_isActive_11 : decode cW_isActive 11 = .ok (.iload_n 1, 1) := by decide +kernel
theorem dW_isActive_12 : decode cW_isActive 12 = .ok (.aaload, 1) := by decide +kernel
theorem dW_isActive_13 : decode cW_isActive 13 = .ok (.getfield 93, 3) := by decide +kernel
theorem dW_isActive_16 : decode cW_isActive 16 = .ok (.iconst 1, 1) := by decide +kernel
theorem dW_isActive_17 : decode cW_isActive 17 = .ok (.if_icmp .ne 7, 3) := by decide +kernel
theorem dW_isActive_20 : decode cW_isActive 20 = .ok (.iconst 1, 1) := by decide +kernel
theorem dW_isActive_21 : decode cW_isActive 21 = .ok (.goto 4, 3) := by decide +kernel
theorem dW_isActive_24 : decode cW_isActive 24 = .ok (.iconst 0, 1) := by decide +kernel
theorem dW_isActive_25 : decode cW_isActive 25 = .ok (.ireturn, 1) := by decide +kernel
theorem dW_latest_0 : decode cW_latest 0 = .ok (.aload_n 0, 1) := by decide +kernel
theorem dW_latest_1 : decode cW_latest 1 = .ok (.getfield 33, 3) := by decide +kernel
theorem dW_latest_4 : decode cW_latest 4 = .ok (.aload_n 0, 1) := by decide +kernel
theorem dW_latest_5 : decode cW_latest 5 = .ok (.getfield 11, 3) := by decide +kernel
theorem dW_latest_8 : decode cW_latest 8 = .ok (.iload_n 1, 1) := by decide +kernel
theorem dW_latest_9 : decode cW_latest 9 = .ok (.aaload, 1) := by decide +kernel
theorem dW_latest_10 : decode cW_latest 10 = .ok (.getfield 76, 3) := by decide +kernel
theorem dW_latest_13 : decode cW_latest 13 = .ok (.iadd, 1) := by decide +kernel
theorem dW_latest_14 : decode cW_latest 14 = .ok (.ireturn, 1) := by decide +kernel
theorem dW_earliest_0 : decode cW_earliest 0 = .ok (.aload_n 0, 1) := by decide +kernel
theorem dW_earliest_1 : decode cW_earliest 1 = .ok (.getfield 33, 3) := by decide +kernel
theorem dW_earliest_4 : decode cW_earliest 4 = .ok (.aload_n 0, 1) := by decide +kernel
theorem dW_earliest_5 : decode cW_earliest 5 = .ok (.getfield 11, 3) := by decide +kernel
theorem dW_earliest_8 : decode cW_earliest 8 = .ok (.iload_n 1, 1) := by decide +kernel
theorem dW_earliest_9 : decode cW_earliest 9 = .ok (.aaload, 1) := by decide +kernel
theorem dW_earliest_10 : decode cW_earliest 10 = .ok (.getfield 73, 3) := by decide +kernel
theorem dW_earliest_13 : decode cW_earliest 13 = .ok (.isub, 1) := by decide +kernel
theorem dW_earliest_14 : decode cW_earliest 14 = .ok (.ireturn, 1) := by decide +kernel
theorem dW_leastMark_0 : decode cW_leastMark 0 = .ok (.ldc 179, 2) := by decide +kernel
theorem dW_leastMark_2 : decode cW_leastMark 2 = .ok (.istore_n 2, 1) := by decide +kernel
theorem dW_leastMark_3 : decode cW_leastMark 3 = .ok (.iconst 0, 1) := by decide +kernel
theorem dW_leastMark_4 : decode cW_leastMark 4 = .ok (.istore_n 3, 1) := by decide +kernel
theorem dW_leastMark_5 : decode cW_leastMark 5 = .ok (.iload_n 3, 1) := by decide +kernel
theorem dW_leastMark_6 : decode cW_leastMark 6 = .ok (.iconst 5, 1) := by decide +kernel
theorem dW_leastMark_7 : decode cW_leastMark 7 = .ok (.if_icmp .ge 39, 3) := by decide +kernel
theorem dW_leastMark_10 : decode cW_leastMark 10 = .ok (.aload_n 0, 1) := by decide +kernel
theorem dW_leastMark_11 : decode cW_leastMark 11 = .ok (.getfield 23, 3) := by decide +kernel
theorem dW_leastMark_14 : decode cW_leastMark 14 = .ok (.iload_n 3, 1) := by decide +kernel
theorem dW_leastMark_15 : decode cW_leastMark 15 = .ok (.aaload, 1) := by decide +kernel
theorem dW_leastMark_16 : decode cW_leastMark 16 = .ok (.getfield 162, 3) := by decide +kernel
theorem dW_leastMark_19 : decode cW_leastMark 19 = .ok (.iload_n 1, 1) := by decide +kernel
theorem dW_leastMark_20 : decode cW_leastMark 20 = .ok (.iaload, 1) := by decide +kernel
theorem dW_leastMark_21 : decode cW_leastMark 21 = .ok (.ifCond .eq 19, 3) := by decide +kernel
theorem dW_leastMark_24 : decode cW_leastMark 24 = .ok (.iload_n 2, 1) := by decide +kernel
theorem dW_leastMark_25 : decode cW_leastMark 25 = .ok (.aload_n 0, 1) := by decide +kernel
theorem dW_leastMark_26 : decode cW_leastMark 26 = .ok (.getfield 23, 3) := by decide +kernel
theorem dW_leastMark_29 : decode cW_leastMark 29 = .ok (.iload_n 3, 1) := by decide +kernel
theorem dW_leastMark_30 : decode cW_leastMark 30 = .ok (.aaload, 1) := by decide +kernel
theorem dW_leastMark_31 : decode cW_leastMark 31 = .ok (.getfield 162, 3) := by decide +kernel
theorem dW_leastMark_34 : decode cW_leastMark 34 = .ok (.iload_n 1, 1) := by decide +kernel
theorem dW_leastMark_35 : decode cW_leastMark 35 = .ok (.iaload, 1) := by decide +kernel
theorem dW_leastMark_36 : decode cW_leastMark 36 = .ok (.invokestatic 46, 3) := by decide +kernel
theorem dW_leastMark_39 : decode cW_leastMark 39 = .ok (.istore_n 2, 1) := by decide +kernel
theorem dW_leastMark_40 : decode cW_leastMark 40 = .ok (.iinc 3 1, 3) := by decide +kernel
theorem dW_leastMark_43 : decode cW_leastMark 43 = .ok (.goto (-38), 3) := by decide +kernel
theorem dW_leastMark_46 : decode cW_leastMark 46 = .ok (.iload_n 2, 1) := by decide +kernel
theorem dW_leastMark_47 : decode cW_leastMark 47 = .ok (.ireturn, 1) := by decide +kernel
theorem dW_greatestReadyTime_0 : decode cW_greatestReadyTime 0 = .ok (.aload_n 0, 1) := by decide +kernel
theorem dW_greatestReadyTime_1 : decode cW_greatestReadyTime 1 = .ok (.iload_n 1, 1) := by decide +kernel
theorem dW_greatestReadyTime_2 : decode cW_greatestReadyTime 2 = .ok (.invokevirtual 180, 3) := by decide +kernel
theorem dW_greatestReadyTime_5 : decode cW_greatestReadyTime 5 = .ok (.aload_n 0, 1) := by decide +kernel
theorem dW_greatestReadyTime_6 : decode cW_greatestReadyTime 6 = .ok (.iload_n 1, 1) := by decide +kernel
theorem dW_greatestReadyTime_7 : decode cW_greatestReadyTime 7 = .ok (.invokevirtual 165, 3) := by decide +kernel
theorem dW_greatestReadyTime_10 : decode cW_greatestReadyTime 10 = .ok (.iconst 1, 1) := by decide +kernel
theorem dW_greatestReadyTime_11 : decode cW_greatestReadyTime 11 = .ok (.isub, 1) := by decide +kernel
theorem dW_greatestReadyTime_12 : decode cW_greatestReadyTime 12 = .ok (.invokestatic 46, 3) := by decide +kernel
theorem dW_greatestReadyTime_15 : decode cW_greatestReadyTime 15 = .ok (.ireturn, 1) := by decide +kernel
theorem dW_lock_0 : decode cW_lock 0 = .ok (.aload_n 0, 1) := by decide +kernel
theorem dW_lock_1 : decode cW_lock 1 = .ok (.getfield 11, 3) := by decide +kernel
theorem dW_lock_4 : decode cW_lock 4 = .ok (.iload_n 2, 1) := by decide +kernel
theorem dW_lock_5 : decode cW_lock 5 = .ok (.invokestatic 134, 3) := by decide +kernel
theorem dW_lock_8 : decode cW_lock 8 = .ok (.aaload, 1) := by decide +kernel
theorem dW_lock_9 : decode cW_lock 9 = .ok (.getfield 82, 3) := by decide +kernel
theorem dW_lock_12 : decode cW_lock 12 = .ok (.ifCond .ne 5, 3) := by decide +kernel
theorem dW_lock_15 : decode cW_lock 15 = .ok (.iconst 0, 1) := by decide +kernel
theorem dW_lock_16 : decode cW_lock 16 = .ok (.ireturn, 1) := by decide +kernel
theorem dW_lock_17 : decode cW_lock 17 = .ok (.aload_n 1, 1) := by decide +kernel
theorem dW_lock_18 : decode cW_lock 18 = .ok (.getfield 111, 3) := by decide +kernel
theorem dW_lock_21 : decode cW_lock 21 = .ok (.iload_n 2, 1) := by decide +kernel
theorem dW_lock_22 : decode cW_lock 22 = .ok (.iaload, 1) := by decide +kernel
theorem dW_lock_23 : decode cW_lock 23 = .ok (.iload_n 3, 1) := by decide +kernel
theorem dW_lock_24 : decode cW_lock 24 = .ok (.if_icmp .lt 5, 3) := by decide +kernel
theorem dW_lock_27 : decode cW_lock 27 = .ok (.iconst 1, 1) := by decide +kernel
theorem dW_lock_28 : decode cW_lock 28 = .ok (.ireturn, 1) := by decide +kernel
theorem dW_lock_29 : decode cW_lock 29 = .ok (.iconst 0, 1) := by decide +kernel
theorem dW_lock_30 : decode cW_lock 30 = .ok (.istore 4, 2) := by decide +kernel
theorem dW_lock_32 : decode cW_lock 32 = .ok (.iload 4, 2) := by decide +kernel
theorem dW_lock_34 : decode cW_lock 34 = .ok (.iconst 5, 1) := by decide +kernel
theorem dW_lock_35 : decode cW_lock 35 = .ok (.if_icmp .ge 41, 3) := by decide +kernel
theorem dW_lock_38 : decode cW_lock 38 = .ok (.aload_n 0, 1) := by decide +kernel
theorem dW_lock_39 : decode cW_lock 39 = .ok (.getfield 23, 3) := by decide +kernel
theorem dW_lock_42 : decode cW_lock 42 = .ok (.iload 4, 2) := by decide +kernel
theorem dW_lock_44 : decode cW_lock 44 = .ok (.aaload, 1) := by decide +kernel
theorem dW_lock_45 : decode cW_lock 45 = .ok (.aload_n 1, 1) := by decide +kernel
theorem dW_lock_46 : decode cW_lock 46 = .ok (.iload_n 2, 1) := by decide +kernel
theorem dW_lock_47 : decode cW_lock 47 = .ok (.iload_n 3, 1) := by decide +kernel
theorem dW_lock_48 : decode cW_lock 48 = .ok (.invokestatic 183, 3) := by decide +kernel
theorem dW_lock_51 : decode cW_lock 51 = .ok (.ifCond .eq 19, 3) := by decide +kernel
theorem dW_lock_54 : decode cW_lock 54 = .ok (.aload_n 1, 1) := by decide +kernel
theorem dW_lock_55 : decode cW_lock 55 = .ok (.aload_n 0, 1) := by decide +kernel
theorem dW_lock_56 : decode cW_lock 56 = .ok (.getfield 23, 3) := by decide +kernel
theorem dW_lock_59 : decode cW_lock 59 = .ok (.iload 4, 2) := by decide +kernel
theorem dW_lock_61 : decode cW_lock 61 = .ok (.aaload, 1) := by decide +kernel
theorem dW_lock_62 : decode cW_lock 62 = .ok (.invokestatic 187, 3) := by decide +kernel
theorem dW_lock_65 : decode cW_lock 65 = .ok (.ifCond .ne 5, 3) := by decide +kernel
theorem dW_lock_68 : decode cW_lock 68 = .ok (.iconst 0, 1) := by decide +kernel
theorem dW_lock_69 : decode cW_lock 69 = .ok (.ireturn, 1) := by decide +kernel
theorem dW_lock_70 : decode cW_lock 70 = .ok (.iinc 4 1, 3) := by decide +kernel
theorem dW_lock_73 : decode cW_lock 73 = .ok (.goto (-41), 3) := by decide +kernel
theorem dW_lock_76 : decode cW_lock 76 = .ok (.iconst 0, 1) := by decide +kernel
theorem dW_lock_77 : decode cW_lock 77 = .ok (.istore 4, 2) := by decide +kernel
theorem dW_lock_79 : decode cW_lock 79 = .ok (.iload 4, 2) := by decide +kernel
theorem dW_lock_81 : decode cW_lock 81 = .ok (.iconst 5, 1) := by decide +kernel
theorem dW_lock_82 : decode cW_lock 82 = .ok (.if_icmp .ge 35, 3) := by decide +kernel
theorem dW_lock_85 : decode cW_lock 85 = .ok (.aload_n 0, 1) := by decide +kernel
theorem dW_lock_86 : decode cW_lock 86 = .ok (.getfield 23, 3) := by decide +kernel
theorem dW_lock_89 : decode cW_lock 89 = .ok (.iload 4, 2) := by decide +kernel
theorem dW_lock_91 : decode cW_lock 91 = .ok (.aaload, 1) := by decide +kernel
theorem dW_lock_92 : decode cW_lock 92 = .ok (.aload_n 1, 1) := by decide +kernel
theorem dW_lock_93 : decode cW_lock 93 = .ok (.iload_n 2, 1) := by decide +kernel
theorem dW_lock_94 : decode cW_lock 94 = .ok (.iload_n 3, 1) := by decide +kernel
theorem dW_lock_95 : decode cW_lock 95 = .ok (.invokestatic 183, 3) := by decide +kernel
theorem dW_lock_98 : decode cW_lock 98 = .ok (.ifCond .eq 13, 3) := by decide +kernel
theorem dW_lock_101 : decode cW_lock 101 = .ok (.aload_n 0, 1) := by decide +kernel
theorem dW_lock_102 : decode cW_lock 102 = .ok (.getfield 23, 3) := by decide +kernel
theorem dW_lock_105 : decode cW_lock 105 = .ok (.iload 4, 2) := by decide +kernel
theorem dW_lock_107 : decode cW_lock 107 = .ok (.aaload, 1) := by decide +kernel
theorem dW_lock_108 : decode cW_lock 108 = .ok (.invokevirtual 131, 3) := by decide +kernel
theorem dW_lock_111 : decode cW_lock 111 = .ok (.iinc 4 1, 3) := by decide +kernel
theorem dW_lock_114 : decode cW_lock 114 = .ok (.goto (-35), 3) := by decide +kernel
theorem dW_lock_117 : decode cW_lock 117 = .ok (.aload_n 1, 1) := by decide +kernel
theorem dW_lock_118 : decode cW_lock 118 = .ok (.getfield 111, 3) := by decide +kernel
theorem dW_lock_121 : decode cW_lock 121 = .ok (.iload_n 2, 1) := by decide +kernel
theorem dW_lock_122 : decode cW_lock 122 = .ok (.iload_n 3, 1) := by decide +kernel
theorem dW_lock_123 : decode cW_lock 123 = .ok (.iastore, 1) := by decide +kernel
theorem dW_lock_124 : decode cW_lock 124 = .ok (.iconst 1, 1) := by decide +kernel
theorem dW_lock_125 : decode cW_lock 125 = .ok (.ireturn, 1) := by decide +kernel
theorem dW_conflicts_0 : decode cW_conflicts 0 = .ok (.aload_n 0, 1) := by decide +kernel
theorem dW_conflicts_1 : decode cW_conflicts 1 = .ok (.aload_n 1, 1) := by decide +kernel
theorem dW_conflicts_2 : decode cW_conflicts 2 = .ok (.if_acmp .eq 12, 3) := by decide +kernel
theorem dW_conflicts_5 : decode cW_conflicts 5 = .ok (.aload_n 0, 1) := by decide +kernel
theorem dW_conflicts_6 : decode cW_conflicts 6 = .ok (.getfield 111, 3) := by decide +kernel
theorem dW_conflicts_9 : decode cW_conflicts 9 = .ok (.iload_n 2, 1) := by decide +kernel
theorem dW_conflicts_10 : decode cW_conflicts 10 = .ok (.iaload, 1) := by decide +kernel
theorem dW_conflicts_11 : decode cW_conflicts 11 = .ok (.ifCond .ne 5, 3) := by decide +kernel
theorem dW_conflicts_14 : decode cW_conflicts 14 = .ok (.iconst 0, 1) := by decide +kernel
theorem dW_conflicts_15 : decode cW_conflicts 15 = .ok (.ireturn, 1) := by decide +kernel
theorem dW_conflicts_16 : decode cW_conflicts 16 = .ok (.iload_n 3, 1) := by decide +kernel
theorem dW_conflicts_17 : decode cW_conflicts 17 = .ok (.iconst 2, 1) := by decide +kernel
theorem dW_conflicts_18 : decode cW_conflicts 18 = .ok (.if_icmp .eq 13, 3) := by decide +kernel
theorem dW_conflicts_21 : decode cW_conflicts 21 = .ok (.aload_n 0, 1) := by decide +kernel
theorem dW_conflicts_22 : decode cW_conflicts 22 = .ok (.getfield 111, 3) := by decide +kernel
theorem dW_conflicts_25 : decode cW_conflicts 25 = .ok (.iload_n 2, 1) := by decide +kernel
theorem dW_conflicts_26 : decode cW_conflicts 26 = .ok (.iaload, 1) := by decide +kernel
theorem dW_conflicts_27 : decode cW_conflicts 27 = .ok (.iconst 2, 1) := by decide +kernel
theorem dW_conflicts_28 : decode cW_conflicts 28 = .ok (.if_icmp .ne 7, 3) := by decide +kernel
theorem dW_conflicts_31 : decode cW_conflicts 31 = .ok (.iconst 1, 1) := by decide +kernel
theorem dW_conflicts_32 : decode cW_conflicts 32 = .ok (.goto 4, 3) := by decide +kernel
theorem dW_conflicts_35 : decode cW_conflicts 35 = .ok (.iconst 0, 1) := by decide +kernel
theorem dW_conflicts_36 : decode cW_conflicts 36 = .ok (.ireturn, 1) := by decide +kernel
theorem dW_canPushAside_0 : decode cW_canPushAside 0 = .ok (.aload_n 1, 1) := by decide +kernel
theorem dW_canPushAside_1 : decode cW_canPushAside 1 = .ok (.getfield 93, 3) := by decide +kernel
theorem dW_canPushAside_4 : decode cW_canPushAside 4 = .ok (.iconst 1, 1) := by decide +kernel
theorem dW_canPushAside_5 : decode cW_canPushAside 5 = .ok (.if_icmp .ne 18, 3) := by decide +kernel
theorem dW_canPushAside_8 : decode cW_canPushAside 8 = .ok (.aload_n 1, 1) := by decide +kernel
theorem dW_canPushAside_9 : decode cW_canPushAside 9 = .ok (.getfield 96, 3) := by decide +kernel
theorem dW_canPushAside_12 : decode cW_canPushAside 12 = .ok (.aload_n 0, 1) := by decide +kernel
theorem dW_canPushAside_13 : decode cW_canPushAside 13 = .ok (.getfield 96, 3) := by decide +kernel
theorem dW_canPushAside_16 : decode cW_canPushAside 16 = .ok (.if_icmp .le 7, 3) := by decide +kernel
theorem dW_canPushAside_19 : decode cW_canPushAside 19 = .ok (.iconst 1, 1) := by decide +kernel
theorem dW_canPushAside_20 : decode cW_canPushAside 20 = .ok (.goto 4, 3) := by decide +kernel
theorem dW_canPushAside_23 : decode cW_canPushAside 23 = .ok (.iconst 0, 1) := by decide +kernel
theorem dW_canPushAside_24 : decode cW_canPushAside 24 = .ok (.ireturn, 1) := by decide +kernel
theorem dW_prepare_0 : decode cW_prepare 0 = .ok (.aload_n 0, 1) := by decide +kernel
theorem dW_prepare_1 : decode cW_prepare 1 = .ok (.getfield 23, 3) := by decide +kernel
theorem dW_prepare_4 : decode cW_prepare 4 = .ok (.iload_n 1, 1) := by decide +kernel
theorem dW_prepare_5 : decode cW_prepare 5 = .ok (.aaload, 1) := by decide +kernel
theorem dW_prepare_6 : decode cW_prepare 6 = .ok (.astore_n 2, 1) := by decide +kernel
theorem dW_prepare_7 : decode cW_prepare 7 = .ok (.aload_n 2, 1) := by decide +kernel
theorem dW_prepare_8 : decode cW_prepare 8 = .ok (.iconst 2, 1) := by decide +kernel
theorem dW_prepare_9 : decode cW_prepare 9 = .ok (.putfield 93, 3) := by decide +kernel
theorem dW_prepare_12 : decode cW_prepare 12 = .ok (.aload_n 2, 1) := by decide +kernel
theorem dW_prepare_13 : decode cW_prepare 13 = .ok (.aload_n 0, 1) := by decide +kernel
theorem dW_prepare_14 : decode cW_prepare 14 = .ok (.aload_n 2, 1) := by decide +kernel
theorem dW_prepare_15 : decode cW_prepare 15 = .ok (.getfield 125, 3) := by decide +kernel
theorem dW_prepare_18 : decode cW_prepare 18 = .ok (.invokevirtual 180, 3) := by decide +kernel
theorem dW_prepare_21 : decode cW_prepare 21 = .ok (.iconst 1, 1) := by decide +kernel
theorem dW_prepare_22 : decode cW_prepare 22 = .ok (.iadd, 1) := by decide +kernel
theorem dW_prepare_23 : decode cW_prepare 23 = .ok (.putfield 191, 3) := by decide +kernel
theorem dW_prepare_26 : decode cW_prepare 26 = .ok (.aload_n 2, 1) := by decide +kernel
theorem dW_prepare_27 : decode cW_prepare 27 = .ok (.aload_n 0, 1) := by decide +kernel
theorem dW_prepare_28 : decode cW_prepare 28 = .ok (.iconst 1, 1) := by decide +kernel
theorem dW_prepare_29 : decode cW_prepare 29 = .ok (.iload_n 1, 1) := by decide +kernel
theorem dW_prepare_30 : decode cW_prepare 30 = .ok (.invokevirtual 194, 3) := by decide +kernel
theorem dW_prepare_33 : decode cW_prepare 33 = .ok (.putfield 197, 3) := by decide +kernel
theorem dW_prepare_36 : decode cW_prepare 36 = .ok (.aload_n 2, 1) := by decide +kernel
theorem dW_prepare_37 : decode cW_prepare 37 = .ok (.getfield 197, 3) := by decide +kernel
theorem dW_prepare_40 : decode cW_prepare 40 = .ok (.ifCond .ne 8, 3) := by decide +kernel
theorem dW_prepare_43 : decode cW_prepare 43 = .ok (.aload_n 0, 1) := by decide +kernel
theorem dW_prepare_44 : decode cW_prepare 44 = .ok (.aload_n 2, 1) := by decide +kernel
theorem dW_prepare_45 : decode cW_prepare 45 = .ok (.invokevirtual 200, 3) := by decide +kernel
theorem dW_prepare_48 : decode cW_prepare 48 = .ok (.return_, 1) := by decide +kernel
theorem dW_sendToOthers_0 : decode cW_sendToOthers 0 = .ok (.aload_n 0, 1) := by decide +kernel
theorem dW_sendToOthers_1 : decode cW_sendToOthers 1 = .ok (.getfield 23, 3) := by decide +kernel
theorem dW_sendToOthers_4 : decode cW_sendToOthers 4 = .ok (.iload_n 2, 1) := by decide +kernel
theorem dW_sendToOthers_5 : decode cW_sendToOthers 5 = .ok (.aaload, 1) := by decide +kernel
theorem dW_sendToOthers_6 : decode cW_sendToOthers 6 = .ok (.astore_n 3, 1) := by decide +kernel
theorem dW_sendToOthers_7 : decode cW_sendToOthers 7 = .ok (.iconst 0, 1) := by decide +kernel
theorem dW_sendToOthers_8 : decode cW_sendToOthers 8 = .ok (.istore 4, 2) := by decide +kernel
theorem dW_sendToOthers_10 : decode cW_sendToOthers 10 = .ok (.iconst 0, 1) := by decide +kernel
theorem dW_sendToOthers_11 : decode cW_sendToOthers 11 = .ok (.istore 5, 2) := by decide +kernel
theorem dW_sendToOthers_13 : decode cW_sendToOthers 13 = .ok (.iload 5, 2) := by decide +kernel
theorem dW_sendToOthers_15 : decode cW_sendToOthers 15 = .ok (.iconst 3, 1) := by decide +kernel
theorem dW_sendToOthers_16 : decode cW_sendToOthers 16 = .ok (.if_icmp .ge 38, 3) := by decide +kernel
theorem dW_sendToOthers_19 : decode cW_sendToOthers 19 = .ok (.iload 5, 2) := by decide +kernel
theorem dW_sendToOthers_21 : decode cW_sendToOthers 21 = .ok (.aload_n 3, 1) := by decide +kernel
theorem dW_sendToOthers_22 : decode cW_sendToOthers 22 = .ok (.getfield 125, 3) := by decide +kernel
theorem dW_sendToOthers_25 : decode cW_sendToOthers 25 = .ok (.if_icmp .eq 23, 3) := by decide +kernel
theorem dW_sendToOthers_28 : decode cW_sendToOthers 28 = .ok (.aload_n 3, 1) := by decide +kernel
theorem dW_sendToOthers_29 : decode cW_sendToOthers 29 = .ok (.iload 5, 2) := by decide +kernel
theorem dW_sendToOthers_31 : decode cW_sendToOthers 31 = .ok (.invokevirtual 204, 3) := by decide +kernel
theorem dW_sendToOthers_34 : decode cW_sendToOthers 34 = .ok (.ifCond .eq 14, 3) := by decide +kernel
theorem dW_sendToOthers_37 : decode cW_sendToOthers 37 = .ok (.aload_n 0, 1) := by decide +kernel
theorem dW_sendToOthers_38 : decode cW_sendToOthers 38 = .ok (.iload_n 1, 1) := by decide +kernel
theorem dW_sendToOthers_39 : decode cW_sendToOthers 39 = .ok (.iload_n 2, 1) := by decide +kernel
theorem dW_sendToOthers_40 : decode cW_sendToOthers 40 = .ok (.iload 5, 2) := by decide +kernel
theorem dW_sendToOthers_42 : decode cW_sendToOthers 42 = .ok (.invokevirtual 207, 3) := by decide +kernel
theorem dW_sendToOthers_45 : decode cW_sendToOthers 45 = .ok (.iinc 4 1, 3) := by decide +kernel
theorem dW_sendToOthers_48 : decode cW_sendToOthers 48 = .ok (.iinc 5 1, 3) := by decide +kernel
theorem dW_sendToOthers_51 : decode cW_sendToOthers 51 = .ok (.goto (-38), 3) := by decide +kernel
theorem dW_sendToOthers_54 : decode cW_sendToOthers 54 = .ok (.iload 4, 2) := by decide +kernel
theorem dW_sendToOthers_56 : decode cW_sendToOthers 56 = .ok (.ireturn, 1) := by decide +kernel
theorem dW_send_0 : decode cW_send 0 = .ok (.aload_n 0, 1) := by decide +kernel
theorem dW_send_1 : decode cW_send 1 = .ok (.getfield 23, 3) := by decide +kernel
theorem dW_send_4 : decode cW_send 4 = .ok (.iload_n 2, 1) := by decide +kernel
theorem dW_send_5 : decode cW_send 5 = .ok (.aaload, 1) := by decide +kernel
theorem dW_send_6 : decode cW_send 6 = .ok (.getfield 125, 3) := by decide +kernel
theorem dW_send_9 : decode cW_send 9 = .ok (.istore 4, 2) := by decide +kernel
theorem dW_send_11 : decode cW_send 11 = .ok (.aload_n 0, 1) := by decide +kernel
theorem dW_send_12 : decode cW_send 12 = .ok (.getfield 29, 3) := by decide +kernel
theorem dW_send_15 : decode cW_send 15 = .ok (.iload_n 2, 1) := by decide +kernel
theorem dW_send_16 : decode cW_send 16 = .ok (.iconst 3, 1) := by decide +kernel
theorem dW_send_17 : decode cW_send 17 = .ok (.imul, 1) := by decide +kernel
theorem dW_send_18 : decode cW_send 18 = .ok (.iload_n 3, 1) := by decide +kernel
theorem dW_send_19 : decode cW_send 19 = .ok (.iadd, 1) := by decide +kernel
theorem dW_send_20 : decode cW_send 20 = .ok (.aaload, 1) := by decide +kernel
theorem dW_send_21 : decode cW_send 21 = .ok (.astore 5, 2) := by decide +kernel
theorem dW_send_23 : decode cW_send 23 = .ok (.aload 5, 2) := by decide +kernel
theorem dW_send_25 : decode cW_send 25 = .ok (.iload_n 1, 1) := by decide +kernel
theorem dW_send_26 : decode cW_send 26 = .ok (.putfield 211, 3) := by decide +kernel
theorem dW_send_29 : decode cW_send 29 = .ok (.aload 5, 2) := by decide +kernel
theorem dW_send_31 : decode cW_send 31 = .ok (.iload_n 1, 1) := by decide +kernel
theorem dW_send_32 : decode cW_send 32 = .ok (.iconst 2, 1) := by decide +kernel
theorem dW_send_33 : decode cW_send 33 = .ok (.if_icmp .ne 8, 3) := by decide +kernel
theorem dW_send_36 : decode cW_send 36 = .ok (.iload 4, 2) := by decide +kernel
theorem dW_send_38 : decode cW_send 38 = .ok (.goto 4, 3) := by decide +kernel
theorem dW_send_41 : decode cW_send 41 = .ok (.iload_n 3, 1) := by decide +kernel
theorem dW_send_42 : decode cW_send 42 = .ok (.putfield 214, 3) := by decide +kernel
theorem dW_send_45 : decode cW_send 45 = .ok (.aload 5, 2) := by decide +kernel
theorem dW_send_47 : decode cW_send 47 = .ok (.aload_n 0, 1) := by decide +kernel
theorem dW_send_48 : decode cW_send 48 = .ok (.getfield 33, 3) := by decide +kernel
theorem dW_send_51 : decode cW_send 51 = .ok (.iconst 1, 1) := by decide +kernel
theorem dW_send_52 : decode cW_send 52 = .ok (.iadd, 1) := by decide +kernel
theorem dW_send_53 : decode cW_send 53 = .ok (.aload_n 0, 1) := by decide +kernel
theorem dW_send_54 : decode cW_send 54 = .ok (.getfield 11, 3) := by decide +kernel
theorem dW_send_57 : decode cW_send 57 = .ok (.iload 4, 2) := by decide +kernel
theorem dW_send_59 : decode cW_send 59 = .ok (.aaload, 1) := by decide +kernel
theorem dW_send_60 : decode cW_send 60 = .ok (.getfield 79, 3) := by decide +kernel
theorem dW_send_63 : decode cW_send 63 = .ok (.iadd, 1) := by decide +kernel
theorem dW_send_64 : decode cW_send 64 = .ok (.aload_n 0, 1) := by decide +kernel
theorem dW_send_65 : decode cW_send 65 = .ok (.getfield 11, 3) := by decide +kernel
theorem dW_send_68 : decode cW_send 68 = .ok (.iload_n 3, 1) := by decide +kernel
theorem dW_send_69 : decode cW_send 69 = .ok (.aaload, 1) := by decide +kernel
theorem dW_send_70 : decode cW_send 70 = .ok (.getfield 79, 3) := by decide +kernel
theorem dW_send_73 : decode cW_send 73 = .ok (.iadd, 1) := by decide +kernel
theorem dW_send_74 : decode cW_send 74 = .ok (.putfield 217, 3) := by decide +kernel
theorem dW_send_77 : decode cW_send 77 = .ok (.aload 5, 2) := by decide +kernel
theorem dW_send_79 : decode cW_send 79 = .ok (.aload_n 0, 1) := by decide +kernel
theorem dW_send_80 : decode cW_send 80 = .ok (.getfield 40, 3) := by decide +kernel
theorem dW_send_83 : decode cW_send 83 = .ok (.putfield 220, 3) := by decide +kernel
theorem dW_send_86 : decode cW_send 86 = .ok (.aload_n 0, 1) := by decide +kernel
theorem dW_send_87 : decode cW_send 87 = .ok (.dup, 1) := by decide +kernel
theorem dW_send_88 : decode cW_send 88 = .ok (.getfield 40, 3) := by decide +kernel
theorem dW_send_91 : decode cW_send 91 = .ok (.iconst 1, 1) := by decide +kernel
theorem dW_send_92 : decode cW_send 92 = .ok (.iadd, 1) := by decide +kernel
theorem dW_send_93 : decode cW_send 93 = .ok (.putfield 40, 3) := by decide +kernel
theorem dW_send_96 : decode cW_send 96 = .ok (.aload_n 0, 1) := by decide +kernel
theorem dW_send_97 : decode cW_send 97 = .ok (.dup, 1) := by decide +kernel
theorem dW_send_98 : decode cW_send 98 = .ok (.getfield 43, 3) := by decide +kernel
theorem dW_send_101 : decode cW_send 101 = .ok (.iconst 1, 1) := by decide +kernel
theorem dW_send_102 : decode cW_send 102 = .ok (.iadd, 1) := by decide +kernel
theorem dW_send_103 : decode cW_send 103 = .ok (.putfield 43, 3) := by decide +kernel
theorem dW_send_106 : decode cW_send 106 = .ok (.return_, 1) := by decide +kernel
theorem dW_deliverMessages_0 : decode cW_deliverMessages 0 = .ok (.iconst 0, 1) := by decide +kernel
theorem dW_deliverMessages_1 : decode cW_deliverMessages 1 = .ok (.istore_n 1, 1) := by decide +kernel
theorem dW_deliverMessages_2 : decode cW_deliverMessages 2 = .ok (.iload_n 1, 1) := by decide +kernel
theorem dW_deliverMessages_3 : decode cW_deliverMessages 3 = .ok (.aload_n 0, 1) := by decide +kernel
theorem dW_deliverMessages_4 : decode cW_deliverMessages 4 = .ok (.getfield 29, 3) := by decide +kernel
theorem dW_deliverMessages_7 : decode cW_deliverMessages 7 = .ok (.arraylength, 1) := by decide +kernel
theorem dW_deliverMessages_8 : decode cW_deliverMessages 8 = .ok (.if_icmp .ge 31, 3) := by decide +kernel
theorem dW_deliverMessages_11 : decode cW_deliverMessages 11 = .ok (.aload_n 0, 1) := by decide +kernel
theorem dW_deliverMessages_12 : decode cW_deliverMessages 12 = .ok (.getfield 43, 3) := by decide +kernel
theorem dW_deliverMessages_15 : decode cW_deliverMessages 15 = .ok (.ifCond .le 24, 3) := by decide +kernel
theorem dW_deliverMessages_18 : decode cW_deliverMessages 18 = .ok (.aload_n 0, 1) := by decide +kernel
theorem dW_deliverMessages_19 : decode cW_deliverMessages 19 = .ok (.invokevirtual 223, 3) := by decide +kernel
theorem dW_deliverMessages_22 : decode cW_deliverMessages 22 = .ok (.astore_n 2, 1) := by decide +kernel
theorem dW_deliverMessages_23 : decode cW_deliverMessages 23 = .ok (.aload_n 2, 1) := by decide +kernel
theorem dW_deliverMessages_24 : decode cW_deliverMessages 24 = .ok (.ifnonnull 4, 3) := by decide +kernel
theorem dW_deliverMessages_27 : decode cW_deliverMessages 27 = .ok (.return_, 1) := by decide +kernel
theorem dW_deliverMessages_28 : decode cW_deliverMessages 28 = .ok (.aload_n 0, 1) := by decide +kernel
theorem dW_deliverMessages_29 : decode cW_deliverMessages 29 = .ok (.aload_n 2, 1) := by decide +kernel
theorem dW_deliverMessages_30 : decode cW_deliverMessages 30 = .ok (.invokevirtual 227, 3) := by decide +kernel
theorem dW_deliverMessages_33 : decode cW_deliverMessages 33 = .ok (.iinc 1 1, 3) := by decide +kernel
theorem dW_deliverMessages_36 : decode cW_deliverMessages 36 = .ok (.goto (-34), 3) := by decide +kernel
theorem dW_deliverMessages_39 : decode cW_deliverMessages 39 = .ok (.return_, 1) := by decide +kernel
theorem dW_firstDue_0 : decode cW_firstDue 0 = .ok (.aconst_null, 1) := by decide +kernel
theorem dW_firstDue_1 : decode cW_firstDue 1 = .ok (.astore_n 1, 1) := by decide +kernel
theorem dW_firstDue_2 : decode cW_firstDue 2 = .ok (.iconst 0, 1) := by decide +kernel
theorem dW_firstDue_3 : decode cW_firstDue 3 = .ok (.istore_n 2, 1) := by decide +kernel
theorem dW_firstDue_4 : decode cW_firstDue 4 = .ok (.iload_n 2, 1) := by decide +kernel
theorem dW_firstDue_5 : decode cW_firstDue 5 = .ok (.aload_n 0, 1) := by decide +kernel
theorem dW_firstDue_6 : decode cW_firstDue 6 = .ok (.getfield 29, 3) := by decide +kernel
theorem dW_firstDue_9 : decode cW_firstDue 9 = .ok (.arraylength, 1) := by decide +kernel
theorem dW_firstDue_10 : decode cW_firstDue 10 = .ok (.if_icmp .ge 46, 3) := by decide +kernel
theorem dW_firstDue_13 : decode cW_firstDue 13 = .ok (.aload_n 0, 1) := by decide +kernel
theorem dW_firstDue_14 : decode cW_firstDue 14 = .ok (.aload_n 0, 1) := by decide +kernel
theorem dW_firstDue_15 : decode cW_firstDue 15 = .ok (.getfield 29, 3) := by decide +kernel
theorem dW_firstDue_18 : decode cW_firstDue 18 = .ok (.iload_n 2, 1) := by decide +kernel
theorem dW_firstDue_19 : decode cW_firstDue 19 = .ok (.aaload, 1) := by decide +kernel
theorem dW_firstDue_20 : decode cW_firstDue 20 = .ok (.invokevirtual 231, 3) := by decide +kernel
theorem dW_firstDue_23 : decode cW_firstDue 23 = .ok (.ifCond .eq 27, 3) := by decide +kernel
theorem dW_firstDue_26 : decode cW_firstDue 26 = .ok (.aload_n 1, 1) := by decide +kernel
theorem dW_firstDue_27 : decode cW_firstDue 27 = .ok (.ifnull 16, 3) := by decide +kernel
theorem dW_firstDue_30 : decode cW_firstDue 30 = .ok (.aload_n 0, 1) := by decide +kernel
theorem dW_firstDue_31 : decode cW_firstDue 31 = .ok (.getfield 29, 3) := by decide +kernel
theorem dW_firstDue_34 : decode cW_firstDue 34 = .ok (.iload_n 2, 1) := by decide +kernel
theorem dW_firstDue_35 : decode cW_firstDue 35 = .ok (.aaload, 1) := by decide +kernel
theorem dW_firstDue_36 : decode cW_firstDue 36 = .ok (.aload_n 1, 1) := by decide +kernel
theorem dW_firstDue_37 : decode cW_firstDue 37 = .ok (.invokevirtual 235, 3) := by decide +kernel
theorem dW_firstDue_40 : decode cW_firstDue 40 = .ok (.ifCond .eq 10, 3) := by decide +kernel
theorem dW_firstDue_43 : decode cW_firstDue 43 = .ok (.aload_n 0, 1) := by decide +kernel
theorem dW_firstDue_44 : decode cW_firstDue 44 = .ok (.getfield 29, 3) := by decide +kernel
theorem dW_firstDue_47 : decode cW_firstDue 47 = .ok (.iload_n 2, 1) := by decide +kernel
theorem dW_firstDue_48 : decode cW_firstDue 48 = .ok (.aaload, 1) := by decide +kernel
theorem dW_firstDue_49 : decode cW_firstDue 49 = .ok (.astore_n 1, 1) := by decide +kernel
theorem dW_firstDue_50 : decode cW_firstDue 50 = .ok (.iinc 2 1, 3) := by decide +kernel
theorem dW_firstDue_53 : decode cW_firstDue 53 = .ok (.goto (-49), 3) := by decide +kernel
theorem dW_firstDue_56 : decode cW_firstDue 56 = .ok (.aload_n 1, 1) := by decide +kernel
theorem dW_firstDue_57 : decode cW_firstDue 57 = .ok (.areturn, 1) := by decide +kernel
theorem dW_isDue_0 : decode cW_isDue 0 = .ok (.aload_n 1, 1) := by decide +kernel
theorem dW_isDue_1 : decode cW_isDue 1 = .ok (.getfield 211, 3) := by decide +kernel
theorem dW_isDue_4 : decode cW_isDue 4 = .ok (.ifCond .eq 33, 3) := by decide +kernel
theorem dW_isDue_7 : decode cW_isDue 7 = .ok (.aload_n 1, 1) := by decide +kernel
theorem dW_isDue_8 : decode cW_isDue 8 = .ok (.getfield 217, 3) := by decide +kernel
theorem dW_isDue_11 : decode cW_isDue 11 = .ok (.aload_n 0, 1) := by decide +kernel
theorem dW_isDue_12 : decode cW_isDue 12 = .ok (.getfield 33, 3) := by decide +kernel
theorem dW_isDue_15 : decode cW_isDue 15 = .ok (.if_icmp .gt 22, 3) := by decide +kernel
theorem dW_isDue_18 : decode cW_isDue 18 = .ok (.aload_n 0, 1) := by decide +kernel
theorem dW_isDue_19 : decode cW_isDue 19 = .ok (.getfield 11, 3) := by decide +kernel
theorem dW_isDue_22 : decode cW_isDue 22 = .ok (.aload_n 1, 1) := by decide +kernel
theorem dW_isDue_23 : decode cW_isDue 23 = .ok (.getfield 214, 3) := by decide +kernel
theorem dW_isDue_26 : decode cW_isDue 26 = .ok (.aaload, 1) := by decide +kernel
theorem dW_isDue_27 : decode cW_isDue 27 = .ok (.getfield 82, 3) := by decide +kernel
theorem dW_isDue_30 : decode cW_isDue 30 = .ok (.ifCond .eq 7, 3) := by decide +kernel
theorem dW_isDue_33 : decode cW_isDue 33 = .ok (.iconst 1, 1) := by decide +kernel
theorem dW_isDue_34 : decode cW_isDue 34 = .ok (.goto 4, 3) := by decide +kernel
theorem dW_isDue_37 : decode cW_isDue 37 = .ok (.iconst 0, 1) := by decide +kernel
theorem dW_isDue_38 : decode cW_isDue 38 = .ok (.ireturn, 1) := by decide +kernel
theorem dW_dealWith_0 : decode cW_dealWith 0 = .ok (.aload_n 1, 1) := by decide +kernel
theorem dW_dealWith_1 : decode cW_dealWith 1 = .ok (.getfield 211, 3) := by decide +kernel
theorem dW_dealWith_4 : decode cW_dealWith 4 = .ok (.istore_n 2, 1) := by decide +kernel
theorem dW_dealWith_5 : decode cW_dealWith 5 = .ok (.aload_n 1, 1) := by decide +kernel
theorem dW_dealWith_6 : decode cW_dealWith 6 = .ok (.iconst 0, 1) := by decide +kernel
theorem dW_dealWith_7 : decode cW_dealWith 7 = .ok (.putfield 211, 3) := by decide +kernel
theorem dW_dealWith_10 : decode cW_dealWith 10 = .ok (.aload_n 0, 1) := by decide +kernel
theorem dW_dealWith_11 : decode cW_dealWith 11 = .ok (.dup, 1) := by decide +kernel
theorem dW_dealWith_12 : decode cW_dealWith 12 = .ok (.getfield 43, 3) := by decide +kernel
theorem dW_dealWith_15 : decode cW_dealWith 15 = .ok (.iconst 1, 1) := by decide +kernel
theorem dW_dealWith_16 : decode cW_dealWith 16 = .ok (.isub, 1) := by decide +kernel
theorem dW_dealWith_17 : decode cW_dealWith 17 = .ok (.putfield 43, 3) := by decide +kernel
theorem dW_dealWith_20 : decode cW_dealWith 20 = .ok (.iload_n 2, 1) := by decide +kernel
theorem dW_dealWith_21 : decode cW_dealWith 21 = .ok (.iconst 1, 1) := by decide +kernel
theorem dW_dealWith_22 : decode cW_dealWith 22 = .ok (.if_icmp .ne 18, 3) := by decide +kernel
theorem dW_dealWith_25 : decode cW_dealWith 25 = .ok (.aload_n 0, 1) := by decide +kernel
theorem dW_dealWith_26 : decode cW_dealWith 26 = .ok (.aload_n 1, 1) := by decide +kernel
theorem dW_dealWith_27 : decode cW_dealWith 27 = .ok (.getfield 238, 3) := by decide +kernel
theorem dW_dealWith_30 : decode cW_dealWith 30 = .ok (.aload_n 1, 1) := by decide +kernel
theorem dW_dealWith_31 : decode cW_dealWith 31 = .ok (.getfield 241, 3) := by decide +kernel
theorem dW_dealWith_34 : decode cW_dealWith 34 = .ok (.invokevirtual 244, 3) := by decide +kernel
theorem dW_dealWith_37 : decode cW_dealWith 37 = .ok (.goto 41, 3) := by decide +kernel
theorem dW_dealWith_40 : decode cW_dealWith 40 = .ok (.iload_n 2, 1) := by decide +kernel
theorem dW_dealWith_41 : decode cW_dealWith 41 = .ok (.iconst 2, 1) := by decide +kernel
theorem dW_dealWith_42 : decode cW_dealWith 42 = .ok (.if_icmp .ne 19, 3) := by decide +kernel
theorem dW_dealWith_45 : decode cW_dealWith 45 = .ok (.aload_n 0, 1) := by decide +kernel
theorem dW_dealWith_46 : decode cW_dealWith 46 = .ok (.aload_n 0, 1) := by decide +kernel
theorem dW_dealWith_47 : decode cW_dealWith 47 = .ok (.getfield 23, 3) := by decide +kernel
theorem dW_dealWith_50 : decode cW_dealWith 50 = .ok (.aload_n 1, 1) := by decide +kernel
theorem dW_dealWith_51 : decode cW_dealWith 51 = .ok (.getfield 238, 3) := by decide +kernel
theorem dW_dealWith_54 : decode cW_dealWith 54 = .ok (.aaload, 1) := by decide +kernel
theorem dW_dealWith_55 : decode cW_dealWith 55 = .ok (.invokevirtual 247, 3) := by decide +kernel
theorem dW_dealWith_58 : decode cW_dealWith 58 = .ok (.goto 20, 3) := by decide +kernel
theorem dW_dealWith_61 : decode cW_dealWith 61 = .ok (.aload_n 0, 1) := by decide +kernel
theorem dW_dealWith_62 : decode cW_dealWith 62 = .ok (.aload_n 0, 1) := by decide +kernel
theorem dW_dealWith_63 : decode cW_dealWith 63 = .ok (.getfield 23, 3) := by decide +kernel
theorem dW_dealWith_66 : decode cW_dealWith 66 = .ok (.aload_n 1, 1) := by decide +kernel
theorem dW_dealWith_67 : decode cW_dealWith 67 = .ok (.getfield 238, 3) := by decide +kernel
theorem dW_dealWith_70 : decode cW_dealWith 70 = .ok (.aaload, 1) := by decide +kernel
theorem dW_dealWith_71 : decode cW_dealWith 71 = .ok (.aload_n 1, 1) := by decide +kernel
theorem dW_dealWith_72 : decode cW_dealWith 72 = .ok (.getfield 241, 3) := by decide +kernel
theorem dW_dealWith_75 : decode cW_dealWith 75 = .ok (.invokevirtual 250, 3) := by decide +kernel
theorem dW_dealWith_78 : decode cW_dealWith 78 = .ok (.return_, 1) := by decide +kernel
theorem dW_takePrepare_0 : decode cW_takePrepare 0 = .ok (.aload_n 0, 1) := by decide +kernel
theorem dW_takePrepare_1 : decode cW_takePrepare 1 = .ok (.iload_n 2, 1) := by decide +kernel
theorem dW_takePrepare_2 : decode cW_takePrepare 2 = .ok (.invokevirtual 180, 3) := by decide +kernel
theorem dW_takePrepare_5 : decode cW_takePrepare 5 = .ok (.aload_n 0, 1) := by decide +kernel
theorem dW_takePrepare_6 : decode cW_takePrepare 6 = .ok (.getfield 11, 3) := by decide +kernel
theorem dW_takePrepare_9 : decode cW_takePrepare 9 = .ok (.iload_n 2, 1) := by decide +kernel
theorem dW_takePrepare_10 : decode cW_takePrepare 10 = .ok (.aaload, 1) := by decide +kernel
theorem dW_takePrepare_11 : decode cW_takePrepare 11 = .ok (.getfield 168, 3) := by decide +kernel
theorem dW_takePrepare_14 : decode cW_takePrepare 14 = .ok (.iconst 1, 1) := by decide +kernel
theorem dW_takePrepare_15 : decode cW_takePrepare 15 = .ok (.iadd, 1) := by decide +kernel
theorem dW_takePrepare_16 : decode cW_takePrepare 16 = .ok (.invokestatic 52, 3) := by decide +kernel
theorem dW_takePrepare_19 : decode cW_takePrepare 19 = .ok (.istore_n 3, 1) := by decide +kernel
theorem dW_takePrepare_20 : decode cW_takePrepare 20 = .ok (.aload_n 0, 1) := by decide +kernel
theorem dW_takePrepare_21 : decode cW_takePrepare 21 = .ok (.getfield 23, 3) := by decide +kernel
theorem dW_takePrepare_24 : decode cW_takePrepare 24 = .ok (.iload_n 1, 1) := by decide +kernel
theorem dW_takePrepare_25 : decode cW_takePrepare 25 = .ok (.aaload, 1) := by decide +kernel
theorem dW_takePrepare_26 : decode cW_takePrepare 26 = .ok (.getfield 162, 3) := by decide +kernel
theorem dW_takePrepare_29 : decode cW_takePrepare 29 = .ok (.iload_n 2, 1) := by decide +kernel
theorem dW_takePrepare_30 : decode cW_takePrepare 30 = .ok (.iload_n 3, 1) := by decide +kernel
theorem dW_takePrepare_31 : decode cW_takePrepare 31 = .ok (.iastore, 1) := by decide +kernel
theorem dW_takePrepare_32 : decode cW_takePrepare 32 = .ok (.aload_n 0, 1) := by decide +kernel
theorem dW_takePrepare_33 : decode cW_takePrepare 33 = .ok (.getfield 11, 3) := by decide +kernel
theorem dW_takePrepare_36 : decode cW_takePrepare 36 = .ok (.iload_n 2, 1) := by decide +kernel
theorem dW_takePrepare_37 : decode cW_takePrepare 37 = .ok (.aaload, 1) := by decide +kernel
theorem dW_takePrepare_38 : decode cW_takePrepare 38 = .ok (.iload_n 3, 1) := by decide +kernel
theorem dW_takePrepare_39 : decode cW_takePrepare 39 = .ok (.putfield 168, 3) := by decide +kernel
theorem dW_takePrepare_42 : decode cW_takePrepare 42 = .ok (.aload_n 0, 1) := by decide +kernel
theorem dW_takePrepare_43 : decode cW_takePrepare 43 = .ok (.iconst 2, 1) := by decide +kernel
theorem dW_takePrepare_44 : decode cW_takePrepare 44 = .ok (.iload_n 1, 1) := by decide +kernel
theorem dW_takePrepare_45 : decode cW_takePrepare 45 = .ok (.iload_n 2, 1) := by decide +kernel
theorem dW_takePrepare_46 : decode cW_takePrepare 46 = .ok (.invokevirtual 207, 3) := by decide +kernel
theorem dW_takePrepare_49 : decode cW_takePrepare 49 = .ok (.return_, 1) := by decide +kernel
theorem dW_takePrepared_0 : decode cW_takePrepared 0 = .ok (.aload_n 1, 1) := by decide +kernel
theorem dW_takePrepared_1 : decode cW_takePrepared 1 = .ok (.dup, 1) := by decide +kernel
theorem dW_takePrepared_2 : decode cW_takePrepared 2 = .ok (.getfield 197, 3) := by decide +kernel
theorem dW_takePrepared_5 : decode cW_takePrepared 5 = .ok (.iconst 1, 1) := by decide +kernel
theorem dW_takePrepared_6 : decode cW_takePrepared 6 = .ok (.isub, 1) := by decide +kernel
theorem dW_takePrepared_7 : decode cW_takePrepared 7 = .ok (.putfield 197, 3) := by decide +kernel
theorem dW_takePrepared_10 : decode cW_takePrepared 10 = .ok (.aload_n 1, 1) := by decide +kernel
theorem dW_takePrepared_11 : decode cW_takePrepared 11 = .ok (.getfield 197, 3) := by decide +kernel
theorem dW_takePrepared_14 : decode cW_takePrepared 14 = .ok (.ifCond .ne 8, 3) := by decide +kernel
theorem dW_takePrepared_17 : decode cW_takePrepared 17 = .ok (.aload_n 0, 1) := by decide +kernel
theorem dW_takePrepared_18 : decode cW_takePrepared 18 = .ok (.aload_n 1, 1) := by decide +kernel
theorem dW_takePrepared_19 : decode cW_takePrepared 19 = .ok (.invokevirtual 200, 3) := by decide +kernel
theorem dW_takePrepared_22 : decode cW_takePrepared 22 = .ok (.return_, 1) := by decide +kernel
theorem dW_chooseStamp_0 : decode cW_chooseStamp 0 = .ok (.aload_n 0, 1) := by decide +kernel
theorem dW_chooseStamp_1 : decode cW_chooseStamp 1 = .ok (.getfield 11, 3) := by decide +kernel
theorem dW_chooseStamp_4 : decode cW_chooseStamp 4 = .ok (.aload_n 1, 1) := by decide +kernel
theorem dW_chooseStamp_5 : decode cW_chooseStamp 5 = .ok (.getfield 125, 3) := by decide +kernel
theorem dW_chooseStamp_8 : decode cW_chooseStamp 8 = .ok (.aaload, 1) := by decide +kernel
theorem dW_chooseStamp_9 : decode cW_chooseStamp 9 = .ok (.astore_n 2, 1) := by decide +kernel
theorem dW_chooseStamp_10 : decode cW_chooseStamp 10 = .ok (.aload_n 1, 1) := by decide +kernel
theorem dW_chooseStamp_11 : decode cW_chooseStamp 11 = .ok (.aload_n 1, 1) := by decide +kernel
theorem dW_chooseStamp_12 : decode cW_chooseStamp 12 = .ok (.getfield 191, 3) := by decide +kernel
theorem dW_chooseStamp_15 : decode cW_chooseStamp 15 = .ok (.aload_n 1, 1) := by decide +kernel
theorem dW_chooseStamp_16 : decode cW_chooseStamp 16 = .ok (.invokevirtual 254, 3) := by decide +kernel
theorem dW_chooseStamp_19 : decode cW_chooseStamp 19 = .ok (.invokestatic 52, 3) := by decide +kernel
theorem dW_chooseStamp_22 : decode cW_chooseStamp 22 = .ok (.aload_n 2, 1) := by decide +kernel
theorem dW_chooseStamp_23 : decode cW_chooseStamp 23 = .ok (.getfield 168, 3) := by decide +kernel
theorem dW_chooseStamp_26 : decode cW_chooseStamp 26 = .ok (.iconst 1, 1) := by decide +kernel
theorem dW_chooseStamp_27 : decode cW_chooseStamp 27 = .ok (.iadd, 1) := by decide +kernel
theorem dW_chooseStamp_28 : decode cW_chooseStamp 28 = .ok (.invokestatic 52, 3) := by decide +kernel
theorem dW_chooseStamp_31 : decode cW_chooseStamp 31 = .ok (.putfield 156, 3) := by decide +kernel
theorem dW_chooseStamp_34 : decode cW_chooseStamp 34 = .ok (.aload_n 1, 1) := by decide +kernel
theorem dW_chooseStamp_35 : decode cW_chooseStamp 35 = .ok (.getfield 162, 3) := by decide +kernel
theorem dW_chooseStamp_38 : decode cW_chooseStamp 38 = .ok (.aload_n 1, 1) := by decide +kernel
theorem dW_chooseStamp_39 : decode cW_chooseStamp 39 = .ok (.getfield 125, 3) := by decide +kernel
theorem dW_chooseStamp_42 : decode cW_chooseStamp 42 = .ok (.aload_n 1, 1) := by decide +kernel
theorem dW_chooseStamp_43 : decode cW_chooseStamp 43 = .ok (.getfield 156, 3) := by decide +kernel
theorem dW_chooseStamp_46 : decode cW_chooseStamp 46 = .ok (.iastore, 1) := by decide +kernel
theorem dW_chooseStamp_47 : decode cW_chooseStamp 47 = .ok (.aload_n 2, 1) := by decide +kernel
theorem dW_chooseStamp_48 : decode cW_chooseStamp 48 = .ok (.aload_n 1, 1) := by decide +kernel
theorem dW_chooseStamp_49 : decode cW_chooseStamp 49 = .ok (.getfield 156, 3) := by decide +kernel
theorem dW_chooseStamp_52 : decode cW_chooseStamp 52 = .ok (.putfield 168, 3) := by decide +kernel
theorem dW_chooseStamp_55 : decode cW_chooseStamp 55 = .ok (.aload_n 1, 1) := by decide +kernel
theorem dW_chooseStamp_56 : decode cW_chooseStamp 56 = .ok (.iconst 3, 1) := by decide +kernel
theorem dW_chooseStamp_57 : decode cW_chooseStamp 57 = .ok (.putfield 93, 3) := by decide +kernel
theorem dW_chooseStamp_60 : decode cW_chooseStamp 60 = .ok (.return_, 1) := by decide +kernel
theorem dW_endWaiting_0 : decode cW_endWaiting 0 = .ok (.iconst 0, 1) := by decide +kernel
theorem dW_endWaiting_1 : decode cW_endWaiting 1 = .ok (.istore_n 1, 1) := by decide +kernel
theorem dW_endWaiting_2 : decode cW_endWaiting 2 = .ok (.iconst 0, 1) := by decide +kernel
theorem dW_endWaiting_3 : decode cW_endWaiting 3 = .ok (.istore_n 2, 1) := by decide +kernel
theorem dW_endWaiting_4 : decode cW_endWaiting 4 = .ok (.iload_n 2, 1) := by decide +kernel
theorem dW_endWaiting_5 : decode cW_endWaiting 5 = .ok (.iconst 5, 1) := by decide +kernel
theorem dW_endWaiting_6 : decode cW_endWaiting 6 = .ok (.if_icmp .ge 30, 3) := by decide +kernel
theorem dW_endWaiting_9 : decode cW_endWaiting 9 = .ok (.aload_n 0, 1) := by decide +kernel
theorem dW_endWaiting_10 : decode cW_endWaiting 10 = .ok (.aload_n 0, 1) := by decide +kernel
theorem dW_endWaiting_11 : decode cW_endWaiting 11 = .ok (.getfield 23, 3) := by decide +kernel
theorem dW_endWaiting_14 : decode cW_endWaiting 14 = .ok (.iload_n 2, 1) := by decide +kernel
theorem dW_endWaiting_15 : decode cW_endWaiting 15 = .ok (.aaload, 1) := by decide +kernel
theorem dW_endWaiting_16 : decode cW_endWaiting 16 = .ok (.invokevirtual 257, 3) := by decide +kernel
theorem dW_endWaiting_19 : decode cW_endWaiting 19 = .ok (.ifCond .eq 11, 3) := by decide +kernel
theorem dW_endWaiting_22 : decode cW_endWaiting 22 = .ok (.aload_n 0, 1) := by decide +kernel
theorem dW_endWaiting_23 : decode cW_endWaiting 23 = .ok (.iload_n 2, 1) := by decide +kernel
theorem dW_endWaiting_24 : decode cW_endWaiting 24 = .ok (.invokevirtual 260, 3) := by decide +kernel
theorem dW_endWaiting_27 : decode cW_endWaiting 27 = .ok (.iinc 1 1, 3) := by decide +kernel
theorem dW_endWaiting_30 : decode cW_endWaiting 30 = .ok (.iinc 2 1, 3) := by decide +kernel
theorem dW_endWaiting_33 : decode cW_endWaiting 33 = .ok (.goto (-29), 3) := by decide +kernel
theorem dW_endWaiting_36 : decode cW_endWaiting 36 = .ok (.iload_n 1, 1) := by decide +kernel
theorem dW_endWaiting_37 : decode cW_endWaiting 37 = .ok (.ireturn, 1) := by decide +kernel
theorem dW_mayEnd_0 : decode cW_mayEnd 0 = .ok (.aload_n 1, 1) := by decide +kernel
theorem dW_mayEnd_1 : decode cW_mayEnd 1 = .ok (.getfield 93, 3) := by decide +kernel
theorem dW_mayEnd_4 : decode cW_mayEnd 4 = .ok (.iconst 3, 1) := by decide +kernel
theorem dW_mayEnd_5 : decode cW_mayEnd 5 = .ok (.if_icmp .ne 37, 3) := by decide +kernel
theorem dW_mayEnd_8 : decode cW_mayEnd 8 = .ok (.aload_n 0, 1) := by decide +kernel
theorem dW_mayEnd_9 : decode cW_mayEnd 9 = .ok (.getfield 11, 3) := by decide +kernel
theorem dW_mayEnd_12 : decode cW_mayEnd 12 = .ok (.aload_n 1, 1) := by decide +kernel
theorem dW_mayEnd_13 : decode cW_mayEnd 13 = .ok (.getfield 125, 3) := by decide +kernel
theorem dW_mayEnd_16 : decode cW_mayEnd 16 = .ok (.aaload, 1) := by decide +kernel
theorem dW_mayEnd_17 : decode cW_mayEnd 17 = .ok (.getfield 82, 3) := by decide +kernel
theorem dW_mayEnd_20 : decode cW_mayEnd 20 = .ok (.ifCond .eq 22, 3) := by decide +kernel
theorem dW_mayEnd_23 : decode cW_mayEnd 23 = .ok (.aload_n 0, 1) := by decide +kernel
theorem dW_mayEnd_24 : decode cW_mayEnd 24 = .ok (.aload_n 1, 1) := by decide +kernel
theorem dW_mayEnd_25 : decode cW_mayEnd 25 = .ok (.getfield 125, 3) := by decide +kernel
theorem dW_mayEnd_28 : decode cW_mayEnd 28 = .ok (.invokevirtual 263, 3) := by decide +kernel
theorem dW_mayEnd_31 : decode cW_mayEnd 31 = .ok (.aload_n 1, 1) := by decide +kernel
theorem dW_mayEnd_32 : decode cW_mayEnd 32 = .ok (.getfield 156, 3) := by decide +kernel
theorem dW_mayEnd_35 : decode cW_mayEnd 35 = .ok (.if_icmp .le 7, 3) := by decide +kernel
theorem dW_mayEnd_38 : decode cW_mayEnd 38 = .ok (.iconst 1, 1) := by decide +kernel
theorem dW_mayEnd_39 : decode cW_mayEnd 39 = .ok (.goto 4, 3) := by decide +kernel
theorem dW_mayEnd_42 : decode cW_mayEnd 42 = .ok (.iconst 0, 1) := by decide +kernel
theorem dW_mayEnd_43 : decode cW_mayEnd 43 = .ok (.ireturn, 1) := by decide +kernel
theorem dW_endOne_0 : decode cW_endOne 0 = .ok (.aload_n 0, 1) := by decide +kernel
theorem dW_endOne_1 : decode cW_endOne 1 = .ok (.getfield 23, 3) := by decide +kernel
theorem dW_endOne_4 : decode cW_endOne 4 = .ok (.iload_n 1, 1) := by decide +kernel
theorem dW_endOne_5 : decode cW_endOne 5 = .ok (.aaload, 1) := by decide +kernel
theorem dW_endOne_6 : decode cW_endOne 6 = .ok (.astore_n 2, 1) := by decide +kernel
theorem dW_endOne_7 : decode cW_endOne 7 = .ok (.aload_n 2, 1) := by decide +kernel
theorem dW_endOne_8 : decode cW_endOne 8 = .ok (.iconst 4, 1) := by decide +kernel
theorem dW_endOne_9 : decode cW_endOne 9 = .ok (.putfield 93, 3) := by decide +kernel
theorem dW_endOne_12 : decode cW_endOne 12 = .ok (.aload_n 2, 1) := by decide +kernel
theorem dW_endOne_13 : decode cW_endOne 13 = .ok (.aload_n 0, 1) := by decide +kernel
theorem dW_endOne_14 : decode cW_endOne 14 = .ok (.getfield 33, 3) := by decide +kernel
theorem dW_endOne_17 : decode cW_endOne 17 = .ok (.putfield 159, 3) := by decide +kernel
theorem dW_endOne_20 : decode cW_endOne 20 = .ok (.aload_n 0, 1) := by decide +kernel
theorem dW_endOne_21 : decode cW_endOne 21 = .ok (.aload_n 2, 1) := by decide +kernel
theorem dW_endOne_22 : decode cW_endOne 22 = .ok (.aload_n 2, 1) := by decide +kernel
theorem dW_endOne_23 : decode cW_endOne 23 = .ok (.getfield 125, 3) := by decide +kernel
theorem dW_endOne_26 : decode cW_endOne 26 = .ok (.invokevirtual 250, 3) := by decide +kernel
theorem dW_endOne_29 : decode cW_endOne 29 = .ok (.aload_n 0, 1) := by decide +kernel
theorem dW_endOne_30 : decode cW_endOne 30 = .ok (.iconst 3, 1) := by decide +kernel
theorem dW_endOne_31 : decode cW_endOne 31 = .ok (.iload_n 1, 1) := by decide +kernel
theorem dW_endOne_32 : decode cW_endOne 32 = .ok (.invokevirtual 194, 3) := by decide +kernel
theorem dW_endOne_35 : decode cW_endOne 35 = .ok (.pop, 1) := by decide +kernel
theorem dW_endOne_36 : decode cW_endOne 36 = .ok (.return_, 1) := by decide +kernel
theorem dW_finishAt_0 : decode cW_finishAt 0 = .ok (.iload_n 2, 1) := by decide +kernel
theorem dW_finishAt_1 : decode cW_finishAt 1 = .ok (.istore_n 3, 1) := by decide +kernel
theorem dW_finishAt_2 : decode cW_finishAt 2 = .ok (.iload_n 3, 1) := by decide +kernel
theorem dW_finishAt_3 : decode cW_finishAt 3 = .ok (.bipush 9, 2) := by decide +kernel
theorem dW_finishAt_5 : decode cW_finishAt 5 = .ok (.if_icmp .ge 38, 3) := by decide +kernel
theorem dW_finishAt_8 : decode cW_finishAt 8 = .ok (.aload_n 1, 1) := by decide +kernel
theorem dW_finishAt_9 : decode cW_finishAt 9 = .ok (.getfield 111, 3) := by decide +kernel
theorem dW_finishAt_12 : decode cW_finishAt 12 = .ok (.iload_n 3, 1) := by decide +kernel
theorem dW_finishAt_13 : decode cW_finishAt 13 = .ok (.iaload, 1) := by decide +kernel
theorem dW_finishAt_14 : decode cW_finishAt 14 = .ok (.iconst 2, 1) := by decide +kernel
theorem dW_finishAt_15 : decode cW_finishAt 15 = .ok (.if_icmp .ne 22, 3) := by decide +kernel
theorem dW_finishAt_18 : decode cW_finishAt 18 = .ok (.aload_n 0, 1) := by decide +kernel
theorem dW_finishAt_19 : decode cW_finishAt 19 = .ok (.getfield 17, 3) := by decide +kernel
theorem dW_finishAt_22 : decode cW_finishAt 22 = .ok (.iload_n 3, 1) := by decide +kernel
theorem dW_finishAt_23 : decode cW_finishAt 23 = .ok (.aaload, 1) := by decide +kernel
theorem dW_finishAt_24 : decode cW_finishAt 24 = .ok (.aload_n 1, 1) := by decide +kernel
theorem dW_finishAt_25 : decode cW_finishAt 25 = .ok (.getfield 115, 3) := by decide +kernel
theorem dW_finishAt_28 : decode cW_finishAt 28 = .ok (.iload_n 3, 1) := by decide +kernel
theorem dW_finishAt_29 : decode cW_finishAt 29 = .ok (.iaload, 1) := by decide +kernel
theorem dW_finishAt_30 : decode cW_finishAt 30 = .ok (.aload_n 1, 1) := by decide +kernel
theorem dW_finishAt_31 : decode cW_finishAt 31 = .ok (.getfield 156, 3) := by decide +kernel
theorem dW_finishAt_34 : decode cW_finishAt 34 = .ok (.invokevirtual 266, 3) := by decide +kernel
theorem dW_finishAt_37 : decode cW_finishAt 37 = .ok (.iinc 3 3, 3) := by decide +kernel
theorem dW_finishAt_40 : decode cW_finishAt 40 = .ok (.goto (-38), 3) := by decide +kernel
theorem dW_finishAt_43 : decode cW_finishAt 43 = .ok (.aload_n 1, 1) := by decide +kernel
theorem dW_finishAt_44 : decode cW_finishAt 44 = .ok (.iload_n 2, 1) := by decide +kernel
theorem dW_finishAt_45 : decode cW_finishAt 45 = .ok (.invokevirtual 269, 3) := by decide +kernel
theorem dW_finishAt_48 : decode cW_finishAt 48 = .ok (.aload_n 1, 1) := by decide +kernel
theorem dW_finishAt_49 : decode cW_finishAt 49 = .ok (.getfield 162, 3) := by decide +kernel
theorem dW_finishAt_52 : decode cW_finishAt 52 = .ok (.iload_n 2, 1) := by decide +kernel
theorem dW_finishAt_53 : decode cW_finishAt 53 = .ok (.iconst 0, 1) := by decide +kernel
theorem dW_finishAt_54 : decode cW_finishAt 54 = .ok (.iastore, 1) := by decide +kernel
theorem dW_finishAt_55 : decode cW_finishAt 55 = .ok (.aload_n 0, 1) := by decide +kernel
theorem dW_finishAt_56 : decode cW_finishAt 56 = .ok (.getfield 11, 3) := by decide +kernel
theorem dW_finishAt_59 : decode cW_finishAt 59 = .ok (.iload_n 2, 1) := by decide +kernel
theorem dW_finishAt_60 : decode cW_finishAt 60 = .ok (.aaload, 1) := by decide +kernel
theorem dW_finishAt_61 : decode cW_finishAt 61 = .ok (.aload_n 1, 1) := by decide +kernel
theorem dW_finishAt_62 : decode cW_finishAt 62 = .ok (.getfield 156, 3) := by decide +kernel
theorem dW_finishAt_65 : decode cW_finishAt 65 = .ok (.invokevirtual 141, 3) := by decide +kernel
theorem dW_finishAt_68 : decode cW_finishAt 68 = .ok (.return_, 1) := by decide +kernel
end
section
/-! The class's methods as functions of the state: each follows its code's order. -/
def fc_raise (σ : wc_St) (p : Nat) (r : Int32) : wc_St := wc_st σ 4 p 0 (wc_mx (σ 4 p 0) r)
def fc_shift (σ : wc_St) (k i : Nat) : wc_St := wc_st (wc_st σ 6 k (i + 1) (σ 6 k i)) 7 k (i + 1) ((wc_st σ 6 k (i + 1) (σ 6 k i)) 7 k i)
def fc_put0 (σ : wc_St) (k : Nat) (v s : Int32) : wc_St := wc_st (wc_st σ 6 k 0 v) 7 k 0 s
def fc_cnt (σ : wc_St) (k : Nat) : wc_St := wc_st σ 5 k 0 (wc_mn (σ 5 k 0 + nI 1) (nI 4))
def fc_add (σ : wc_St) (k : Nat) (v s : Int32) : wc_St := fc_cnt (fc_put0 (fc_shift (fc_shift (fc_shift σ k 2) k 1) k 0) k v s) k
def fc_vat (σ : wc_St) (k : Nat) (r : Int32) : Nat → Nat → Int64
  | 0, _ => 2199023255552
  | n + 1, i => if σ 5 k 0 ≤ nI i then 2199023255552 else if r < σ 7 k i then fc_vat σ k r n (i + 1) else (σ 6 k i).toInt64
def fc_holds (σ : wc_St) (t p : Nat) : Int32 := if σ 15 t p = 0 then (if σ 15 t (p + 3) = 0 then (if σ 15 t (p + 6) = 0 then nI 0 else nI 1) else nI 1) else nI 1
def fc_least (σ : wc_St) (t : Nat) : Int32 := if fc_holds σ t 0 = 0 then (if fc_holds σ t 1 = 0 then (if fc_holds σ t 2 = 0 then -1 else nI 2) else nI 1) else nI 0
def fc_unlock (σ : wc_St) (t p : Nat) : wc_St := wc_st (wc_st (wc_st σ 15 t p (nI 0)) 15 t (p + 3) (nI 0)) 15 t (p + 6) (nI 0)
def fc_giveUp (σ : wc_St) (t : Nat) : wc_St := wc_st (fc_unlock (fc_unlock (fc_unlock σ t 0) t 1) t 2) 8 t 0 (nI 5)
def fc_gm (σ : wc_St) (t : Nat) : Int32 := wc_mx (wc_mx (wc_mx (nI 0) (σ 17 t 0)) (σ 17 t 1)) (σ 17 t 2)
def fc_before (σ : wc_St) (i j : Nat) : Int32 := if σ 20 i 0 < σ 20 j 0 then nI 1 else if σ 20 i 0 = σ 20 j 0 then (if σ 21 j 0 ≤ σ 21 i 0 then nI 0 else nI 1) else nI 0
def fc_over (σ : wc_St) (t : Nat) : Int32 := if σ 8 t 0 = nI 4 then (if fc_least σ t = -1 then nI 1 else nI 0) else nI 0
def fc_canBegin (σ : wc_St) (t : Nat) : Int32 := if σ 8 t 0 = 0 then nI 1 else if σ 8 t 0 = nI 5 then nI 1 else if fc_over σ t = 0 then nI 0 else nI 1
def fc_latest (σ : wc_St) (p : Nat) : Int32 := σ 23 0 0 + σ 1 p 0
def fc_earliest (σ : wc_St) (p : Nat) : Int32 := σ 23 0 0 - σ 0 p 0
def fc_lm (σ : wc_St) (p : Nat) : Nat → Nat → Int32 → Int32
  | 0, _, a => a
  | n + 1, i, a => fc_lm σ p n (i + 1) (if σ 17 i p = 0 then a else wc_mn a (σ 17 i p))
def fc_leastMark (σ : wc_St) (p : Nat) : Int32 := fc_lm σ p 5 0 2147483647
def fc_ready (σ : wc_St) (p : Nat) : Int32 := wc_mn (fc_latest σ p) (fc_leastMark σ p - nI 1)
def fc_conf (σ : wc_St) (o t k : Nat) (kind : Int32) : Int32 := if o = t then nI 0 else if σ 15 o k = 0 then nI 0 else if kind = nI 2 then nI 1 else if σ 15 o k = nI 2 then nI 1 else nI 0
def fc_push (σ : wc_St) (t o : Nat) : Int32 := if σ 8 o 0 = nI 1 then (if σ 9 o 0 ≤ σ 9 t 0 then nI 0 else nI 1) else nI 0
def fc_blk (σ : wc_St) (t k : Nat) (kind : Int32) : Nat → Nat → Bool
  | 0, _ => false
  | n + 1, i => if fc_conf σ i t k kind = 0 then fc_blk σ t k kind n (i + 1) else if fc_push σ t i = 0 then true else fc_blk σ t k kind n (i + 1)
def fc_pushAll (t k : Nat) (kind : Int32) : Nat → Nat → wc_St → wc_St
  | 0, _, σ => σ
  | n + 1, i, σ => fc_pushAll t k kind n (i + 1) (if fc_conf σ i t k kind = 0 then σ else fc_giveUp σ i)
def fc_lock (σ : wc_St) (t k : Nat) (kind : Int32) : Int32 × wc_St :=
  if σ 3 (k % 3) 0 = 0 then (nI 0, σ) else if σ 15 t k < kind then (if fc_blk σ t k kind 5 0 = true then (nI 0, σ) else (nI 1, wc_st (fc_pushAll t k kind 5 0 σ) 15 t k kind)) else (nI 1, σ)
def fc_send (σ : wc_St) (kind : Int32) (t p c : Nat) : wc_St :=
  let i := t * 3 + p
  let σ1 := wc_st σ 18 i 0 kind
  let σ2 := wc_st σ1 19 i 0 (if kind = nI 2 then nI c else nI p)
  let σ3 := wc_st σ2 20 i 0 (σ2 23 0 0 + nI 1 + σ2 2 c 0 + σ2 2 p 0)
  let σ4 := wc_st σ3 21 i 0 (σ3 25 0 0)
  let σ5 := wc_st σ4 25 0 0 (σ4 25 0 0 + nI 1)
  wc_st σ5 26 0 0 (σ5 26 0 0 + nI 1)
def fc_sto (kind : Int32) (t c : Nat) : Nat → Nat → Nat → wc_St → Nat × wc_St
  | 0, _, a, σ => (a, σ)
  | n + 1, p, a, σ => if p = c then fc_sto kind t c n (p + 1) a σ else if fc_holds σ t p = 0 then fc_sto kind t c n (p + 1) a σ else fc_sto kind t c n (p + 1) (a + 1) (fc_send σ kind t p c)
def fc_choose (σ : wc_St) (t c : Nat) : wc_St :=
  let σ1 := wc_st σ 13 t 0 (wc_mx (wc_mx (σ 11 t 0) (fc_gm σ t)) (σ 4 c 0 + nI 1))
  let σ2 := wc_st σ1 17 t c (σ1 13 t 0)
  let σ3 := wc_st σ2 4 c 0 (σ2 13 t 0)
  wc_st σ3 8 t 0 (nI 3)
def fc_prep1 (σ : wc_St) (t c : Nat) : wc_St :=
  let σ1 := wc_st σ 8 t 0 (nI 2)
  wc_st σ1 11 t 0 (fc_latest σ1 c + nI 1)
def fc_prep2 (σ : wc_St) (t c : Nat) : wc_St :=
  let r := fc_sto (nI 1) t c 3 0 0 (fc_prep1 σ t c)
  wc_st r.2 12 t 0 (nI r.1)
def fc_prepare (σ : wc_St) (t c : Nat) : wc_St :=
  let σ2 := fc_prep2 σ t c
  if σ2 12 t 0 = 0 then fc_choose σ2 t c else σ2
def fc_isDue (σ : wc_St) (i : Nat) : Int32 := if σ 18 i 0 = 0 then nI 0 else if σ 23 0 0 < σ 20 i 0 then nI 0 else if σ 3 (σ 19 i 0).toNatClampNeg 0 = 0 then nI 0 else nI 1
def fc_first (σ : wc_St) : Nat → Nat → Option Nat → Option Nat
  | 0, _, a => a
  | n + 1, i, a => fc_first σ n (i + 1) (if fc_isDue σ i = 0 then a else match a with
    | none => some i
    | some j => if fc_before σ i j = 0 then some j else some i)
def fc_takePrepare (σ : wc_St) (t p c : Nat) : wc_St :=
  let mk := wc_mx (fc_latest σ p) (σ 4 p 0 + nI 1)
  let σ1 := wc_st σ 17 t p mk
  let σ2 := wc_st σ1 4 p 0 mk
  fc_send σ2 (nI 2) t p c
def fc_takePrepared (σ : wc_St) (t c : Nat) : wc_St :=
  let σ1 := wc_st σ 12 t 0 (σ 12 t 0 - nI 1)
  if σ1 12 t 0 = 0 then fc_choose σ1 t c else σ1
def fc_fin1 (σ : wc_St) (t k : Nat) : wc_St := if σ 15 t k = nI 2 then fc_add σ k (σ 16 t k) (σ 13 t 0) else σ
def fc_finish (σ : wc_St) (t p : Nat) : wc_St :=
  let σ1 := fc_fin1 (fc_fin1 (fc_fin1 σ t p) t (p + 3)) t (p + 6)
  let σ2 := fc_unlock σ1 t p
  let σ3 := wc_st σ2 17 t p (nI 0)
  fc_raise σ3 p (σ3 13 t 0)
def fc_deal0 (σ : wc_St) (i : Nat) : wc_St :=
  let σ1 := wc_st σ 18 i 0 (nI 0)
  wc_st σ1 26 0 0 (σ1 26 0 0 - nI 1)
def fc_deal (σ : wc_St) (t p c : Nat) : wc_St :=
  if σ 18 (t * 3 + p) 0 = nI 1 then fc_takePrepare (fc_deal0 σ (t * 3 + p)) t p c else if σ 18 (t * 3 + p) 0 = nI 2 then fc_takePrepared (fc_deal0 σ (t * 3 + p)) t c else fc_finish (fc_deal0 σ (t * 3 + p)) t p
def fc_crd (σ : wc_St) (t : Nat) : Nat := (σ 10 t 0).toNatClampNeg
def fc_deliver : Nat → wc_St → wc_St
  | 0, σ => σ
  | n + 1, σ => if σ 26 0 0 ≤ 0 then σ else match fc_first σ 15 0 none with
    | none => σ
    | some j => fc_deliver n (fc_deal σ (j / 3) (j % 3) (fc_crd σ (j / 3)))
def fc_mayEnd (σ : wc_St) (t : Nat) : Int32 := if σ 8 t 0 = nI 3 then (if σ 3 (fc_crd σ t) 0 = 0 then nI 0 else if fc_earliest σ (fc_crd σ t) ≤ σ 13 t 0 then nI 0 else nI 1) else nI 0
def fc_endOne (σ : wc_St) (t c : Nat) : wc_St :=
  let σ1 := wc_st σ 8 t 0 (nI 4)
  let σ2 := wc_st σ1 14 t 0 (σ1 23 0 0)
  (fc_sto (nI 3) t c 3 0 0 (fc_finish σ2 t c)).2
def fc_ends : Nat → Nat → Nat → wc_St → Nat × wc_St
  | 0, _, a, σ => (a, σ)
  | n + 1, t, a, σ => if fc_mayEnd σ t = 0 then fc_ends n (t + 1) a σ else fc_ends n (t + 1) (a + 1) (fc_endOne σ t (fc_crd σ t))
def fc_tick (σ : wc_St) : wc_St := wc_st σ 23 0 0 (σ 23 0 0 + nI 1)
def fc_steps : Nat → Nat → wc_St → Nat × wc_St
  | 0, a, σ => (a, σ)
  | n + 1, a, σ => fc_steps n (a + (fc_ends 5 0 0 (fc_deliver 15 (fc_tick σ))).1) (fc_ends 5 0 0 (fc_deliver 15 (fc_tick σ))).2
/-! The public calls -/
def fc_active (σ : wc_St) (t : Nat) : Int32 := if σ 8 t 0 = nI 1 then nI 1 else nI 0
def fc_read (σ : wc_St) (t k : Nat) : Int64 × wc_St :=
  if fc_active σ t = 0 then (1099511627776, σ) else if (fc_lock σ t k (nI 1)).1 = 0 then (1099511627776, (fc_lock σ t k (nI 1)).2) else
    if (fc_lock σ t k (nI 1)).2 15 t k = nI 2 then (((fc_lock σ t k (nI 1)).2 16 t k).toInt64, (fc_lock σ t k (nI 1)).2) else (((fc_lock σ t k (nI 1)).2 6 k 0).toInt64, (fc_lock σ t k (nI 1)).2)
def fc_write (σ : wc_St) (t k : Nat) (v : Int32) : Int32 × wc_St :=
  if fc_active σ t = 0 then (nI 0, σ) else if (fc_lock σ t k (nI 2)).1 = 0 then (nI 0, (fc_lock σ t k (nI 2)).2) else (nI 1, wc_st (fc_lock σ t k (nI 2)).2 16 t k v)
def fc_marks (σ : wc_St) (p : Nat) : Nat → Nat → Nat → Nat
  | 0, _, a => a
  | n + 1, t, a => fc_marks σ p n (t + 1) (if σ 17 t p = 0 then a else a + 1)
def fc_holders (σ : wc_St) (k : Nat) : Nat → Nat → Int32 → Int32
  | 0, _, a => a
  | n + 1, t, a => fc_holders σ k n (t + 1) (let b := if σ 15 t k = 0 then a else a ||| (nI 1 <<< (nI t &&& 31))
    if σ 15 t k = nI 2 then b ||| nI 32 else b)
/-! The reference's methods, likewise. -/
def fm_raise (σ : wc_St) (p : Nat) (r : Int32) : wc_St := wc_st σ 36 0 p (if σ 36 0 p < r then r else σ 36 0 p)
def fm_part (σ : wc_St) (t p : Nat) : Int32 := if σ 47 0 (9 * t + p) + σ 47 0 (9 * t + p + 3) + σ 47 0 (9 * t + p + 6) ≤ 0 then nI 0 else nI 1
def fm_least (σ : wc_St) (t : Nat) : Nat := if fm_part σ t 0 = 0 then (if fm_part σ t 1 = 0 then (if fm_part σ t 2 = 0 then 3 else 2) else 1) else 0
def fm_forget : Nat → Nat → wc_St → wc_St
  | 0, _, σ => σ
  | n + 1, k, σ => fm_forget n (k + 1) (wc_st (wc_st σ 47 0 k (nI 0)) 48 0 k (nI 0))
def fm_begin (σ : wc_St) (t : Nat) : wc_St :=
  let σ1 := wc_st (fm_forget 9 (9 * t) σ) 42 0 t (nI 1)
  let σ2 := wc_st σ1 41 0 0 (σ1 41 0 0 + nI 1)
  wc_st σ2 43 0 t (σ2 41 0 0)
def fm_conf (σ : wc_St) (t u k : Nat) (how : Int32) : Int32 := if u = t then nI 0 else if σ 47 0 (9 * u + k) + how ≤ nI 2 then nI 0 else if σ 47 0 (9 * u + k) ≤ 0 then nI 0 else nI 1
def fm_drop (σ : wc_St) (t : Nat) : wc_St := wc_st (fm_forget 9 (9 * t) σ) 42 0 t (nI 5)
def fm_blk (σ : wc_St) (t k : Nat) (how : Int32) : Nat → Nat → Bool
  | 0, _ => false
  | n + 1, u => if fm_conf σ t u k how = 0 then fm_blk σ t k how n (u + 1) else if σ 42 0 u = nI 1 then (if σ 43 0 u < σ 43 0 t then true else fm_blk σ t k how n (u + 1)) else true
def fm_pushAll (t k : Nat) (how : Int32) : Nat → Nat → wc_St → wc_St
  | 0, _, σ => σ
  | n + 1, u, σ => fm_pushAll t k how n (u + 1) (if fm_conf σ t u k how = 0 then σ else fm_drop σ u)
def fm_take (σ : wc_St) (t k : Nat) (how : Int32) : Int32 × wc_St :=
  if σ 35 0 (k % 3) = 0 then (if σ 47 0 (9 * t + k) < how then (if fm_blk σ t k how 5 0 = true then (nI 0, σ) else (nI 1, wc_st (fm_pushAll t k how 5 0 σ) 47 0 (9 * t + k) how)) else (nI 1, σ)) else (nI 0, σ)
def fm_find (σ : wc_St) (k : Nat) : Nat → Nat → Int32
  | 0, left => if left = 0 then -1 else -2
  | n + 1, left => if σ 38 0 n = nI k then (if left = 0 then nI n else fm_find σ k n (left - 1)) else fm_find σ k n left
def fm_vers (σ : wc_St) : Nat := (σ 37 0 0).toNatClampNeg
def fm_at (a : Int32) (σ : wc_St) (c : Nat) : Int32 := σ c 0 a.toNatClampNeg
def fm_active (μ : wc_St) (t : Nat) : Int32 := if μ 42 0 t = nI 1 then nI 1 else nI 0
def fm_value0 (μ : wc_St) (k : Nat) : Int64 := if fm_find μ k (fm_vers μ) 0 < 0 then 0 else (μ 40 0 (fm_find μ k (fm_vers μ) 0).toNatClampNeg).toInt64
def fm_read (μ : wc_St) (t k : Nat) : Int64 × wc_St :=
  if fm_active μ t = 0 then (1099511627776, μ) else if (fm_take μ t k (nI 1)).1 = 0 then (1099511627776, (fm_take μ t k (nI 1)).2) else
    if (fm_take μ t k (nI 1)).2 48 0 (9 * t + k) = 0 then (fm_value0 (fm_take μ t k (nI 1)).2 k, (fm_take μ t k (nI 1)).2) else (((fm_take μ t k (nI 1)).2 49 0 (9 * t + k)).toInt64, (fm_take μ t k (nI 1)).2)
def fm_write (μ : wc_St) (t k : Nat) (v : Int32) : Int32 × wc_St :=
  if fm_active μ t = 0 then (nI 0, μ) else if (fm_take μ t k (nI 2)).1 = 0 then (nI 0, (fm_take μ t k (nI 2)).2) else (nI 1, wc_st (wc_st (fm_take μ t k (nI 2)).2 48 0 (9 * t + k) (nI 1)) 49 0 (9 * t + k) v)
def fm_send (σ : wc_St) (kind t p o : Nat) : wc_St :=
  let a := 15 * kind + 3 * t + p
  let σ1 := wc_st σ 53 0 a (σ 31 0 0 + nI 1 + σ 34 0 p + σ 34 0 o)
  let σ2 := wc_st σ1 52 0 0 (σ1 52 0 0 + nI 1)
  wc_st σ2 54 0 a (σ2 52 0 0)
def fm_sendAll (kind t c : Nat) : Nat → Nat → wc_St → wc_St
  | 0, _, σ => σ
  | n + 1, p, σ => fm_sendAll kind t c n (p + 1) (if fm_part σ t p = 0 then σ else fm_send σ kind t p c)
def fm_put (σ : wc_St) (t p : Nat) (x : Int32) : wc_St := wc_st (wc_st (wc_st σ 50 0 (3 * t + p) (nI 1)) 51 0 (3 * t + p) x) 36 0 p x
def fm_open (σ : wc_St) (t p : Nat) : Int32 := if σ 53 0 (3 * t + p) ≤ 0 then (if σ 53 0 (15 + 3 * t + p) ≤ 0 then nI 0 else nI 1) else nI 1
def fm_sia (σ : wc_St) (t : Nat) : Nat → Nat → Int32 → Option Int32
  | 0, _, x => some x
  | n + 1, p, x => if fm_open σ t p = 0 then (if fm_part σ t p = 0 then fm_sia σ t n (p + 1) x else if σ 51 0 (3 * t + p) ≤ x then fm_sia σ t n (p + 1) x else fm_sia σ t n (p + 1) (σ 51 0 (3 * t + p))) else none
def fm_s0 (σ : wc_St) (t c : Nat) : Int32 := if σ 45 0 t ≤ σ 36 0 c + nI 1 then σ 36 0 c + nI 1 else σ 45 0 t
def fm_stampIfAll (σ : wc_St) (t : Nat) : wc_St := match fm_sia σ t (2 - fm_least σ t) (fm_least σ t + 1) (fm_s0 σ t (fm_least σ t)) with
  | none => σ
  | some x => wc_st (fm_put (wc_st σ 44 0 t x) t (fm_least σ t) x) 42 0 t (nI 3)
def fm_clear (t : Nat) : Nat → Nat → wc_St → wc_St
  | 0, _, σ => σ
  | n + 1, p, σ => fm_clear t n (p + 1) (wc_st σ 50 0 (3 * t + p) (nI 0))
def fm_commit (σ : wc_St) (t c : Nat) : wc_St :=
  let σ1 := wc_st σ 42 0 t (nI 2)
  let σ2 := wc_st σ1 45 0 t (σ1 31 0 0 + σ1 33 0 c + nI 1)
  fm_stampIfAll (fm_sendAll 0 t c (2 - c) (c + 1) (fm_clear t 3 0 σ2)) t
def fm_fin1 (σ : wc_St) (t k : Nat) : wc_St :=
  let σ4 := if σ 48 0 (9 * t + k) = 0 then σ else
    let v := fm_vers σ
    let σ1 := wc_st σ 38 0 v (nI k)
    let σ2 := wc_st σ1 39 0 v (σ1 44 0 t)
    let σ3 := wc_st σ2 40 0 v (σ2 49 0 (9 * t + k))
    wc_st σ3 37 0 0 (σ3 37 0 0 + nI 1)
  wc_st (wc_st σ4 47 0 (9 * t + k) (nI 0)) 48 0 (9 * t + k) (nI 0)
def fm_finish (σ : wc_St) (t p : Nat) : wc_St :=
  let σ1 := wc_st (fm_fin1 (fm_fin1 (fm_fin1 σ t p) t (p + 3)) t (p + 6)) 50 0 (3 * t + p) (nI 0)
  fm_raise σ1 p (σ1 44 0 t)
def fm_prep (σ : wc_St) (t p : Nat) : wc_St :=
  let σ1 := fm_put σ t p (if σ 31 0 0 + σ 33 0 p ≤ σ 36 0 p + nI 1 then σ 36 0 p + nI 1 else σ 31 0 0 + σ 33 0 p)
  fm_send σ1 1 t p (fm_least σ1 t)
def fm_deal (σ : wc_St) (a : Nat) : wc_St :=
  let σ1 := wc_st σ 53 0 a (nI 0)
  if a / 15 = 0 then fm_prep σ1 (a % 15 / 3) (a % 3) else if a / 15 = 1 then fm_stampIfAll σ1 (a % 15 / 3) else fm_finish σ1 (a % 15 / 3) (a % 3)
def fm_to (σ : wc_St) (a : Nat) : Nat := if a / 15 = 1 then fm_least σ (a % 15 / 3) else a % 3
def fm_can (σ : wc_St) (a : Nat) : Int32 := if σ 53 0 a ≤ 0 then nI 0 else if σ 31 0 0 < σ 53 0 a then nI 0 else if σ 35 0 (fm_to σ a) = 0 then nI 1 else nI 0
def fm_o (b : Option Nat) : Int32 := match b with
  | none => -1
  | some a => nI a
def fm_1st (σ : wc_St) (a : Nat) (b : Option Nat) : Int32 := match b with
  | none => nI 1
  | some b => if σ 53 0 a < σ 53 0 b then nI 1 else if σ 53 0 a = σ 53 0 b then (if σ 54 0 a < σ 54 0 b then nI 1 else nI 0) else nI 0
def fm_next (σ : wc_St) : Nat → Nat → Option Nat → Option Nat
  | 0, _, b => b
  | n + 1, a, b => fm_next σ n (a + 1) (if fm_can σ a = 0 then b else if fm_1st σ a b = 0 then b else some a)
def fm_deliver : Nat → Option Nat → wc_St → wc_St
  | 0, _, σ => σ
  | _ + 1, none, σ => σ
  | n + 1, some a, σ => fm_deliver n (fm_next (fm_deal σ a) 45 0 none) (fm_deal σ a)
def fm_mayEnd (σ : wc_St) (t : Nat) : Bool := if σ 42 0 t = nI 3 then (if σ 35 0 (fm_least σ t) = 0 then (if σ 31 0 0 - σ 32 0 (fm_least σ t) ≤ σ 44 0 t then false else true) else false) else false
def fm_endOne (σ : wc_St) (t c : Nat) : wc_St :=
  let σ1 := wc_st σ 42 0 t (nI 4)
  let σ2 := wc_st σ1 46 0 t (σ1 31 0 0)
  fm_finish (fm_sendAll 2 t c (2 - c) (c + 1) σ2) t c
def fm_ends : Nat → Nat → Nat → wc_St → Nat × wc_St
  | 0, _, d, σ => (d, σ)
  | n + 1, t, d, σ => if fm_mayEnd σ t = true then fm_ends n (t + 1) (d + 1) (fm_endOne σ t (fm_least σ t)) else fm_ends n (t + 1) d σ
def fm_tick (σ : wc_St) : wc_St := wc_st σ 31 0 0 (σ 31 0 0 + nI 1)
def fm_steps : Nat → Nat → wc_St → Nat × wc_St
  | 0, d, σ => (d, σ)
  | n + 1, d, σ => fm_steps n (fm_ends 5 0 d (fm_deliver 45 (fm_next (fm_tick σ) 45 0 none) (fm_tick σ))).1 (fm_ends 5 0 d (fm_deliver 45 (fm_next (fm_tick σ) 45 0 none) (fm_tick σ))).2
def fm_version (σ : wc_St) (x : Int32) : Int32 := if x < 0 then (if x = -1 then nI 0 else -1) else σ 39 0 x.toNatClampNeg
def fm_safe (σ : wc_St) (p : Nat) : Nat → Nat → Int32 → Int32
  | 0, _, x => x
  | n + 1, t, x => fm_safe σ p n (t + 1) (if σ 50 0 (3 * t + p) = 0 then x else if x < σ 51 0 (3 * t + p) then x else σ 51 0 (3 * t + p) - nI 1)
def fm_rat (σ : wc_St) (k : Nat) (r : Int32) : Nat → Nat → Int64
  | 0, _ => 2199023255552
  | n + 1, i => let v := fm_find σ k (fm_vers σ) i
    if v < 0 then (if v = -1 then (if r < 0 then fm_rat σ k r n (i + 1) else 0) else fm_rat σ k r n (i + 1)) else if r < σ 39 0 v.toNatClampNeg then (if v = -1 then (if r < 0 then fm_rat σ k r n (i + 1) else 0) else fm_rat σ k r n (i + 1)) else (σ 40 0 v.toNatClampNeg).toInt64
def fm_marks (σ : wc_St) (p : Nat) : Nat → Nat → Nat → Int32 → Nat × Int32
  | 0, _, n, f => (n, f)
  | j + 1, t, n, f => if σ 50 0 (3 * t + p) = 0 then fm_marks σ p j (t + 1) n f else fm_marks σ p j (t + 1) (n + 1) (if n = 0 then σ 51 0 (3 * t + p) else if σ 51 0 (3 * t + p) < f then σ 51 0 (3 * t + p) else f)
def fm_holders (σ : wc_St) (k : Nat) : Nat → Nat → Int32 → Int32
  | 0, _, a => a
  | n + 1, t, a => fm_holders σ k n (t + 1) (a + (if σ 47 0 (9 * t + k) ≤ 0 then nI 0 else nI 1 <<< (nI t &&& 31)) + (if σ 47 0 (9 * t + k) = nI 2 then nI 32 else nI 0))
def fm_msgs (σ : wc_St) : Nat → Nat → Nat → Nat
  | 0, _, x => x
  | n + 1, a, x => fm_msgs σ n (a + 1) (x + (if σ 53 0 a ≤ 0 then 0 else 1))
/-! ranges -/
theorem wc_notle {a b : Int32} : (¬ a ≤ b) = (b < a) := propext (by rw [Int32.le_iff_toInt_le, Int32.lt_iff_toInt_lt]; omega)
theorem wc_notlt {a b : Int32} : (¬ a < b) = (b ≤ a) := propext (by rw [Int32.le_iff_toInt_le, Int32.lt_iff_toInt_lt]; omega)
theorem wc_nIe {a b : Nat} (ha : a < 2 ^ 31) (hb : b < 2 ^ 31) : (nI a = nI b) = (a = b) := propext (nI_eq ha hb)
theorem wc_nI0 {a : Nat} (ha : a < 2 ^ 31) : (nI a = 0) = (a = 0) := propext (by rw [← nI_0]; exact nI_eq ha (by decide))
theorem wc_0nI {a : Nat} (ha : a < 2 ^ 31) : (0 = nI a) = (a = 0) := propext ⟨fun h => by rw [← wc_nI0 ha]; exact h.symm, fun h => by subst h; decide⟩
theorem wc_nIm {a : Nat} (ha : a < 2 ^ 31) : (nI a = -1) = False := propext ⟨fun h => by
  have h1 := nI_toInt ha
  rw [h] at h1
  have h2 : (-1 : Int32).toInt = -1 := by decide
  omega, fun h => h.elim⟩
def wc_in (a : Int32) (n : Nat) : Int32 := if a < 0 then nI 0 else if nI n ≤ a then nI 0 else nI 1
def fc_isError (σ : wc_St) (a : Int32) : Int32 := if a < 0 then nI 0 else if σ 22 0 0 < a then nI 0 else nI 1
theorem wc_in_I {j N : Nat} (h : j < N) (hN : N < 2 ^ 31) : wc_in (nI j) N = nI 1 := by
  unfold wc_in
  rw [if_neg (nI_pos (by omega)), if_neg (nI_ge h hN)]
theorem wc_in_O {a : Int32} {N : Nat} (h : a < 0 ∨ nI N ≤ a) : wc_in a N = nI 0 := by
  unfold wc_in
  rcases h with h | h
  · rw [if_pos h]
  · rw [if_pos h]; split <;> rfl
theorem fc_least_some {σ : wc_St} {t : Nat} (h : ¬ fc_least σ t = -1) : ∃ c, c < 3 ∧ fc_least σ t = nI c := by
  unfold fc_least at h ⊢
  split
  · split
    · split
      · rename_i h1 h2 h3
        rw [if_pos h1, if_pos h2, if_pos h3] at h
        exact absurd rfl h
      · exact ⟨2, by omega, rfl⟩
    · exact ⟨1, by omega, rfl⟩
  · exact ⟨0, by omega, rfl⟩
theorem fc_send_crd {σ : wc_St} {kind : Int32} {t p c u : Nat} : fc_send σ kind t p c 10 u 0 = σ 10 u 0 := by
  simp [fc_send, wc_st]
end
section
/-! What the class's walks need of a state, and that each call keeps it. -/
def wc_wf (σ : wc_St) : Prop := (∀ t, t < 5 → ∃ c, c < 3 ∧ σ 10 t 0 = nI c) ∧ (∀ i, i < 15 → ∃ r, r < 3 ∧ σ 19 i 0 = nI r) ∧ ∀ k, k < 9 → σ 5 k 0 ≤ nI 4
theorem wc_st_c {σ : wc_St} {c i j c' : Nat} {x : Int32} (h : c' ≠ c) : wc_st σ c i j x c' = σ c' := by
  funext i' j'
  simp [wc_st, h]
theorem wf_st {σ : wc_St} {c i j : Nat} {x : Int32} (hw : wc_wf σ) (h1 : 10 ≠ c) (h2 : 19 ≠ c) (h3 : 5 ≠ c) : wc_wf (wc_st σ c i j x) := by
  refine ⟨fun t ht => ?_, fun i' hi => ?_, fun k hk => ?_⟩
  · rw [wc_st_c h1]; exact hw.1 t ht
  · rw [wc_st_c h2]; exact hw.2.1 i' hi
  · rw [wc_st_c h3]; exact hw.2.2 k hk
theorem wf_rcv {σ : wc_St} {i r : Nat} {x : Int32} (hw : wc_wf σ) (hr : r < 3) (hx : x = nI r) : wc_wf (wc_st σ 19 i 0 x) := by
  refine ⟨fun t ht => ?_, fun i' hi => ?_, fun k hk => ?_⟩
  · rw [wc_st_c (by decide)]; exact hw.1 t ht
  · by_cases h : i' = i
    · subst h
      exact ⟨r, hr, by rw [wc_st_self]; exact hx⟩
    · rw [wc_st_ne h]; exact hw.2.1 i' hi
  · rw [wc_st_c (by decide)]; exact hw.2.2 k hk
theorem wf_crd {σ : wc_St} {t r : Nat} {x : Int32} (hw : wc_wf σ) (hr : r < 3) (hx : x = nI r) : wc_wf (wc_st σ 10 t 0 x) := by
  refine ⟨fun u hu => ?_, fun i' hi => ?_, fun k hk => ?_⟩
  · by_cases h : u = t
    · subst h
      exact ⟨r, hr, by rw [wc_st_self]; exact hx⟩
    · rw [wc_st_ne h]; exact hw.1 u hu
  · rw [wc_st_c (by decide)]; exact hw.2.1 i' hi
  · rw [wc_st_c (by decide)]; exact hw.2.2 k hk
theorem wc_mn_le {x y : Int32} : wc_mn x y ≤ y := by
  unfold wc_mn
  split
  · exact Int32.le_refl _
  · rename_i h
    rw [wc_notlt] at h
    exact h
theorem wf_cnt {σ : wc_St} {k : Nat} {x : Int32} (hw : wc_wf σ) (hx : x ≤ nI 4) : wc_wf (wc_st σ 5 k 0 x) := by
  refine ⟨fun u hu => ?_, fun i' hi => ?_, fun k' hk => ?_⟩
  · rw [wc_st_c (by decide)]; exact hw.1 u hu
  · rw [wc_st_c (by decide)]; exact hw.2.1 i' hi
  · by_cases h : k' = k
    · subst h
      rw [wc_st_self]; exact hx
    · rw [wc_st_ne h]; exact hw.2.2 k' hk
theorem wf_send {σ : wc_St} {kind : Int32} {t p c : Nat} (hw : wc_wf σ) (hp : p < 3) (hc : c < 3) : wc_wf (fc_send σ kind t p c) := by
  unfold fc_send
  refine wf_st (wf_st (wf_st (wf_st ?_ (by decide) (by decide) (by decide)) (by decide) (by decide) (by decide)) (by decide) (by decide) (by decide)) (by decide) (by decide) (by decide)
  by_cases h : kind = nI 2
  · exact wf_rcv (wf_st hw (by decide) (by decide) (by decide)) hc (by rw [if_pos h])
  · exact wf_rcv (wf_st hw (by decide) (by decide) (by decide)) hp (by rw [if_neg h])
theorem wf_sto {kind : Int32} {t c : Nat} (hc : c < 3) : ∀ (n p a : Nat) (σ : wc_St), p + n ≤ 3 → wc_wf σ → wc_wf (fc_sto kind t c n p a σ).2 := by
  intro n
  induction n with
  | zero => intro p a σ _ hw; exact hw
  | succ n ih =>
    intro p a σ hp hw
    unfold fc_sto
    split
    · exact ih _ _ _ (by omega) hw
    · split
      · exact ih _ _ _ (by omega) hw
      · exact ih _ _ _ (by omega) (wf_send hw (by omega) hc)
theorem fc_sto_crd {kind : Int32} {t c u : Nat} : ∀ (n p a : Nat) (σ : wc_St), (fc_sto kind t c n p a σ).2 10 u 0 = σ 10 u 0 := by
  intro n
  induction n with
  | zero => intro p a σ; rfl
  | succ n ih =>
    intro p a σ
    unfold fc_sto
    split
    · exact ih _ _ _
    · split
      · exact ih _ _ _
      · rw [ih, fc_send_crd]
theorem wf_raise {σ : wc_St} {p : Nat} {r : Int32} (hw : wc_wf σ) : wc_wf (fc_raise σ p r) := wf_st hw (by decide) (by decide) (by decide)
theorem wf_shift {σ : wc_St} {k i : Nat} (hw : wc_wf σ) : wc_wf (fc_shift σ k i) := wf_st (wf_st hw (by decide) (by decide) (by decide)) (by decide) (by decide) (by decide)
theorem wf_add {σ : wc_St} {k : Nat} {v s : Int32} (hw : wc_wf σ) : wc_wf (fc_add σ k v s) :=
  wf_cnt (wf_st (wf_st (wf_shift (wf_shift (wf_shift hw))) (by decide) (by decide) (by decide)) (by decide) (by decide) (by decide)) wc_mn_le
theorem wf_fin1 {σ : wc_St} {t k : Nat} (hw : wc_wf σ) : wc_wf (fc_fin1 σ t k) := by
  unfold fc_fin1
  split
  · exact wf_add hw
  · exact hw
theorem wf_unlock {σ : wc_St} {t p : Nat} (hw : wc_wf σ) : wc_wf (fc_unlock σ t p) := wf_st (wf_st (wf_st hw (by decide) (by decide) (by decide)) (by decide) (by decide) (by decide)) (by decide) (by decide) (by decide)
theorem wf_giveUp {σ : wc_St} {t : Nat} (hw : wc_wf σ) : wc_wf (fc_giveUp σ t) := wf_st (wf_unlock (wf_unlock (wf_unlock hw))) (by decide) (by decide) (by decide)
theorem wf_finish {σ : wc_St} {t p : Nat} (hw : wc_wf σ) : wc_wf (fc_finish σ t p) :=
  wf_raise (wf_st (wf_unlock (wf_fin1 (wf_fin1 (wf_fin1 hw)))) (by decide) (by decide) (by decide))
theorem fc_fin1_crd {σ : wc_St} {t k u : Nat} : fc_fin1 σ t k 10 u 0 = σ 10 u 0 := by
  unfold fc_fin1
  split
  · simp [fc_add, fc_cnt, fc_put0, fc_shift, wc_st]
  · rfl
theorem fc_finish_crd {σ : wc_St} {t p u : Nat} : fc_finish σ t p 10 u 0 = σ 10 u 0 := by
  simp [fc_finish, fc_raise, fc_unlock, wc_st, fc_fin1_crd]
theorem wf_choose {σ : wc_St} {t c : Nat} (hw : wc_wf σ) : wc_wf (fc_choose σ t c) :=
  wf_st (wf_st (wf_st (wf_st hw (by decide) (by decide) (by decide)) (by decide) (by decide) (by decide)) (by decide) (by decide) (by decide)) (by decide) (by decide) (by decide)
theorem wf_takePrepare {σ : wc_St} {t p c : Nat} (hw : wc_wf σ) (hp : p < 3) (hc : c < 3) : wc_wf (fc_takePrepare σ t p c) :=
  wf_send (wf_st (wf_st hw (by decide) (by decide) (by decide)) (by decide) (by decide) (by decide)) hp hc
theorem wf_takePrepared {σ : wc_St} {t c : Nat} (hw : wc_wf σ) : wc_wf (fc_takePrepared σ t c) := by
  unfold fc_takePrepared
  have h : wc_wf (wc_st σ 12 t 0 (σ 12 t 0 - nI 1)) := wf_st hw (by decide) (by decide) (by decide)
  dsimp only
  split
  · exact wf_choose h
  · exact h
theorem wf_deal0 {σ : wc_St} {i : Nat} (hw : wc_wf σ) : wc_wf (fc_deal0 σ i) := wf_st (wf_st hw (by decide) (by decide) (by decide)) (by decide) (by decide) (by decide)
theorem wf_deal {σ : wc_St} {t p c : Nat} (hw : wc_wf σ) (hp : p < 3) (hc : c < 3) : wc_wf (fc_deal σ t p c) := by
  unfold fc_deal
  split
  · exact wf_takePrepare (wf_deal0 hw) hp hc
  · split
    · exact wf_takePrepared (wf_deal0 hw)
    · exact wf_finish (wf_deal0 hw)
theorem fc_crd_eq {σ : wc_St} {t c : Nat} (h : σ 10 t 0 = nI c) (hc : c < 3) : fc_crd σ t = c := by
  unfold fc_crd
  rw [h, nI_clamp (by omega)]
theorem wf_crd_lt {σ : wc_St} {t : Nat} (hw : wc_wf σ) (ht : t < 5) : fc_crd σ t < 3 := by
  obtain ⟨c, h1, h2⟩ := hw.1 t ht
  rw [fc_crd_eq h2 h1]
  exact h1
theorem fc_first_lt {σ : wc_St} : ∀ (n i : Nat) (a : Option Nat) (j : Nat), i + n ≤ 15 → (∀ j, a = some j → j < 15) → fc_first σ n i a = some j → j < 15 := by
  intro n
  induction n with
  | zero => intro i a j _ ha h; exact ha j h
  | succ n ih =>
    intro i a j hi ha h
    unfold fc_first at h
    refine ih (i + 1) _ j (by omega) ?_ h
    intro j' hj'
    split at hj'
    · exact ha j' hj'
    · split at hj'
      · cases hj'; omega
      · rename_i j2
        split at hj'
        · cases hj'; exact ha j' rfl
        · cases hj'; omega
theorem wf_deliver : ∀ (n : Nat) (σ : wc_St), wc_wf σ → wc_wf (fc_deliver n σ) := by
  intro n
  induction n with
  | zero => intro σ hw; exact hw
  | succ n ih =>
    intro σ hw
    unfold fc_deliver
    split
    · exact hw
    · split
      · exact hw
      · rename_i j hj
        have hj15 := fc_first_lt 15 0 none j (by omega) (fun _ h => by cases h) hj
        exact ih _ (wf_deal hw (Nat.mod_lt _ (by omega)) (wf_crd_lt hw (by omega)))
theorem wf_endOne {σ : wc_St} {t c : Nat} (hw : wc_wf σ) (hc : c < 3) : wc_wf (fc_endOne σ t c) :=
  wf_sto hc 3 0 0 _ (by omega) (wf_finish (wf_st (wf_st hw (by decide) (by decide) (by decide)) (by decide) (by decide) (by decide)))
theorem wf_ends : ∀ (n t a : Nat) (σ : wc_St), t + n ≤ 5 → wc_wf σ → wc_wf (fc_ends n t a σ).2 := by
  intro n
  induction n with
  | zero => intro t a σ _ hw; exact hw
  | succ n ih =>
    intro t a σ ht hw
    unfold fc_ends
    split
    · exact ih _ _ _ (by omega) hw
    · exact ih _ _ _ (by omega) (wf_endOne hw (wf_crd_lt hw (by omega)))
theorem wf_tick {σ : wc_St} (hw : wc_wf σ) : wc_wf (fc_tick σ) := wf_st hw (by decide) (by decide) (by decide)
theorem wf_steps : ∀ (n a : Nat) (σ : wc_St), wc_wf σ → wc_wf (fc_steps n a σ).2 := by
  intro n
  induction n with
  | zero => intro a σ hw; exact hw
  | succ n ih =>
    intro a σ hw
    unfold fc_steps
    exact ih _ _ (wf_ends 5 0 0 _ (by omega) (wf_deliver 15 _ (wf_tick hw)))
theorem wf_pushAll {t k : Nat} {kind : Int32} : ∀ (n i : Nat) (σ : wc_St), wc_wf σ → wc_wf (fc_pushAll t k kind n i σ) := by
  intro n
  induction n with
  | zero => intro i σ hw; exact hw
  | succ n ih =>
    intro i σ hw
    unfold fc_pushAll
    refine ih _ _ ?_
    split
    · exact hw
    · exact wf_giveUp hw
theorem wf_lock {σ : wc_St} {t k : Nat} {kind : Int32} (hw : wc_wf σ) : wc_wf (fc_lock σ t k kind).2 := by
  unfold fc_lock
  split
  · exact hw
  · split
    · split
      · exact hw
      · exact wf_st (wf_pushAll 5 0 σ hw) (by decide) (by decide) (by decide)
    · exact hw
theorem wf_prepare {σ : wc_St} {t c : Nat} (hw : wc_wf σ) (hc : c < 3) : wc_wf (fc_prepare σ t c) := by
  have h1 : wc_wf (fc_prep1 σ t c) := wf_st (wf_st hw (by decide) (by decide) (by decide)) (by decide) (by decide) (by decide)
  have h2 : wc_wf (fc_prep2 σ t c) := wf_st (wf_sto hc 3 0 0 _ (by omega) h1) (by decide) (by decide) (by decide)
  unfold fc_prepare
  dsimp only
  split
  · exact wf_choose h2
  · exact h2
def wc_rv (Γ : wc_G) (a : Option Nat) : Value := match a with
  | none => .null
  | some j => .ref (Γ.2.2 (55 + j))
end
section
set_option maxRecDepth 100000 in
set_option maxHeartbeats 4000000 in
theorem mc_raiseBound (l : Launch) (Γ : wc_G) (σ μ : wc_St) {q : Nat} (hq : q < 3) (r : Int32) : wc_M l yS_raiseBound cS_raiseBound 2 none 1 Γ [.ref (Γ.2.2 (5 + q)), .int r] σ μ none (fc_raise σ q r) μ := by
  refine wc_enter "WaitedCommits$Site" (by decide) rfl (Nat.le_of_ble_eq_true rfl) ?_
  intro P0 E0 S0 M0 A0 B0 T0 K0 C hr hlk
  refine wr_vs (vs' := [(0, .ref (Γ.2.2 (5 + q))), (1, .int r)]) rfl ?_
  refine wr_aload_n C 0 dS_raiseBound_0 rfl rfl ?_
  refine wr_aload_n C 0 dS_raiseBound_1 rfl rfl ?_
  refine wf_Site_bound C (by omega) (Or.inl tw_39) dS_raiseBound_2 ?_
  refine wr_iload_n C 1 dS_raiseBound_5 rfl rfl ?_
  refine wr_mmax C tw_245 tw_24 tw_2 tw_25 (by decide) (by decide) (Nat.le_of_ble_eq_true rfl) ⟨Nat.le_refl _, Nat.le_refl _⟩ dS_raiseBound_6 ?_
  refine wp_Site_bound C (by omega) (Or.inl tw_39) dS_raiseBound_9 ?_
  generalize hs1 : wc_st σ 4 q 0 (wc_mx (σ 4 q 0) r) = σ1
  exact wr_vret C hr hlk dS_raiseBound_12 rfl (by subst_vars; rfl) (by subst_vars; rfl)
set_option maxRecDepth 100000 in
set_option maxHeartbeats 4000000 in
theorem mc_add (l : Launch) (Γ : wc_G) (σ μ : wc_St) {k : Nat} (hk : k < 9) (a b : Int32) : wc_M l yK_add cK_add 4 none 1 Γ [.ref (Γ.2.2 (8 + k)), .int a, .int b] σ μ none (fc_add σ k a b) μ := by
  refine wc_enter "WaitedCommits$Key" (by decide) rfl (Nat.le_of_ble_eq_true rfl) ?_
  intro P0 E0 S0 M0 A0 B0 T0 K0 C hr hlk
  refine wr_vs (vs' := [(0, .ref (Γ.2.2 (8 + k))), (1, .int a), (2, .int b)]) rfl ?_
  refine wr_iconst C (v := nI 3) dK_add_0 (by decide) ?_
  refine wr_istore_n C (vs' := [(3, .int (nI 3)), (0, .ref (Γ.2.2 (8 + k))), (1, .int a), (2, .int b)]) dK_add_1 rfl (by decide) rfl ?_
  refine wr_iload_n C 0 dK_add_2 rfl rfl ?_
  refine wr_if_le C (tgt := 40) dK_add_3 (by decide) (fun h1 => absurd h1 (by decide)) (fun _ => ?_)
  refine wr_aload_n C 1 dK_add_6 rfl rfl ?_
  refine wf_Key_values C (by omega) (Or.inl tw_51) dK_add_7 ?_
  refine wr_iload_n C 0 dK_add_10 rfl rfl ?_
  refine wr_aload_n C 1 dK_add_11 rfl rfl ?_
  refine wf_Key_values C (by omega) (Or.inl tw_51) dK_add_12 ?_
  refine wr_iload_n C 0 dK_add_15 rfl rfl ?_
  refine wr_iconst C (v := nI 1) dK_add_16 (by decide) ?_
  refine wr_isub C (z := nI 2) dK_add_17 (by decide) ?_
  refine wa_values C (by omega) (by omega) dK_add_18 ?_
  refine ws_values C (by omega) (by omega) dK_add_19 ?_
  generalize hs1 : wc_st σ 6 k 3 (σ 6 k 2) = σ1
  refine wr_aload_n C 1 dK_add_20 rfl rfl ?_
  refine wf_Key_stamps C (by omega) (Or.inl tw_53) dK_add_21 ?_
  refine wr_iload_n C 0 dK_add_24 rfl rfl ?_
  refine wr_aload_n C 1 dK_add_25 rfl rfl ?_
  refine wf_Key_stamps C (by omega) (Or.inl tw_53) dK_add_26 ?_
  refine wr_iload_n C 0 dK_add_29 rfl rfl ?_
  refine wr_iconst C (v := nI 1) dK_add_30 (by decide) ?_
  refine wr_isub C (z := nI 2) dK_add_31 (by decide) ?_
  refine wa_stamps C (by omega) (by omega) dK_add_32 ?_
  refine ws_stamps C (by omega) (by omega) dK_add_33 ?_
  generalize hs2 : wc_st σ1 7 k 3 (σ1 7 k 2) = σ2
  refine wr_iinc C (v := nI 2) (vs' := [(3, .int (nI 2)), (0, .ref (Γ.2.2 (8 + k))), (1, .int a), (2, .int b)]) 0 dK_add_34 rfl (by decide) (by decide) rfl ?_
  refine wr_goto C (tgt := 2) dK_add_37 (by decide) ?_
  refine wr_iload_n C 0 dK_add_2 rfl rfl ?_
  refine wr_if_le C (tgt := 40) dK_add_3 (by decide) (fun h2 => absurd h2 (by decide)) (fun _ => ?_)
  refine wr_aload_n C 1 dK_add_6 rfl rfl ?_
  refine wf_Key_values C (by omega) (Or.inl tw_51) dK_add_7 ?_
  refine wr_iload_n C 0 dK_add_10 rfl rfl ?_
  refine wr_aload_n C 1 dK_add_11 rfl rfl ?_
  refine wf_Key_values C (by omega) (Or.inl tw_51) dK_add_12 ?_
  refine wr_iload_n C 0 dK_add_15 rfl rfl ?_
  refine wr_iconst C (v := nI 1) dK_add_16 (by decide) ?_
  refine wr_isub C (z := nI 1) dK_add_17 (by decide) ?_
  refine wa_values C (by omega) (by omega) dK_add_18 ?_
  refine ws_values C (by omega) (by omega) dK_add_19 ?_
  generalize hs3 : wc_st σ2 6 k 2 (σ2 6 k 1) = σ3
  refine wr_aload_n C 1 dK_add_20 rfl rfl ?_
  refine wf_Key_stamps C (by omega) (Or.inl tw_53) dK_add_21 ?_
  refine wr_iload_n C 0 dK_add_24 rfl rfl ?_
  refine wr_aload_n C 1 dK_add_25 rfl rfl ?_
  refine wf_Key_stamps C (by omega) (Or.inl tw_53) dK_add_26 ?_
  refine wr_iload_n C 0 dK_add_29 rfl rfl ?_
  refine wr_iconst C (v := nI 1) dK_add_30 (by decide) ?_
  refine wr_isub C (z := nI 1) dK_add_31 (by decide) ?_
  refine wa_stamps C (by omega) (by omega) dK_add_32 ?_
  refine ws_stamps C (by omega) (by omega) dK_add_33 ?_
  generalize hs4 : wc_st σ3 7 k 2 (σ3 7 k 1) = σ4
  refine wr_iinc C (v := nI 1) (vs' := [(3, .int (nI 1)), (0, .ref (Γ.2.2 (8 + k))), (1, .int a), (2, .int b)]) 0 dK_add_34 rfl (by decide) (by decide) rfl ?_
  refine wr_goto C (tgt := 2) dK_add_37 (by decide) ?_
  refine wr_iload_n C 0 dK_add_2 rfl rfl ?_
  refine wr_if_le C (tgt := 40) dK_add_3 (by decide) (fun h3 => absurd h3 (by decide)) (fun _ => ?_)
  refine wr_aload_n C 1 dK_add_6 rfl rfl ?_
  refine wf_Key_values C (by omega) (Or.inl tw_51) dK_add_7 ?_
  refine wr_iload_n C 0 dK_add_10 rfl rfl ?_
  refine wr_aload_n C 1 dK_add_11 rfl rfl ?_
  refine wf_Key_values C (by omega) (Or.inl tw_51) dK_add_12 ?_
  refine wr_iload_n C 0 dK_add_15 rfl rfl ?_
  refine wr_iconst C (v := nI 1) dK_add_16 (by decide) ?_
  refine wr_isub C (z := nI 0) dK_add_17 (by decide) ?_
  refine wa_values C (by omega) (by omega) dK_add_18 ?_
  refine ws_values C (by omega) (by omega) dK_add_19 ?_
  generalize hs5 : wc_st σ4 6 k 1 (σ4 6 k 0) = σ5
  refine wr_aload_n C 1 dK_add_20 rfl rfl ?_
  refine wf_Key_stamps C (by omega) (Or.inl tw_53) dK_add_21 ?_
  refine wr_iload_n C 0 dK_add_24 rfl rfl ?_
  refine wr_aload_n C 1 dK_add_25 rfl rfl ?_
  refine wf_Key_stamps C (by omega) (Or.inl tw_53) dK_add_26 ?_
  refine wr_iload_n C 0 dK_add_29 rfl rfl ?_
  refine wr_iconst C (v := nI 1) dK_add_30 (by decide) ?_
  refine wr_isub C (z := nI 0) dK_add_31 (by decide) ?_
  refine wa_stamps C (by omega) (by omega) dK_add_32 ?_
  refine ws_stamps C (by omega) (by omega) dK_add_33 ?_
  generalize hs6 : wc_st σ5 7 k 1 (σ5 7 k 0) = σ6
  refine wr_iinc C (v := nI 0) (vs' := [(3, .int (nI 0)), (0, .ref (Γ.2.2 (8 + k))), (1, .int a), (2, .int b)]) 0 dK_add_34 rfl (by decide) (by decide) rfl ?_
  refine wr_goto C (tgt := 2) dK_add_37 (by decide) ?_
  refine wr_iload_n C 0 dK_add_2 rfl rfl ?_
  refine wr_if_le C (tgt := 40) dK_add_3 (by decide) (fun _ => ?_) (fun h4 => absurd (by decide) h4)
  refine wr_aload_n C 1 dK_add_40 rfl rfl ?_
  refine wf_Key_values C (by omega) (Or.inl tw_51) dK_add_41 ?_
  refine wr_iconst C (v := nI 0) dK_add_44 (by decide) ?_
  refine wr_iload_n C 2 dK_add_45 rfl rfl ?_
  refine ws_values C (by omega) (by omega) dK_add_46 ?_
  generalize hs7 : wc_st σ6 6 k 0 a = σ7
  refine wr_aload_n C 1 dK_add_47 rfl rfl ?_
  refine wf_Key_stamps C (by omega) (Or.inl tw_53) dK_add_48 ?_
  refine wr_iconst C (v := nI 0) dK_add_51 (by decide) ?_
  refine wr_iload_n C 3 dK_add_52 rfl rfl ?_
  refine ws_stamps C (by omega) (by omega) dK_add_53 ?_
  generalize hs8 : wc_st σ7 7 k 0 b = σ8
  refine wr_aload_n C 1 dK_add_54 rfl rfl ?_
  refine wr_aload_n C 1 dK_add_55 rfl rfl ?_
  refine wf_Key_count C (by omega) (Or.inl tw_55) dK_add_56 ?_
  refine wr_iconst C (v := nI 1) dK_add_59 (by decide) ?_
  refine wr_iadd C (z := (σ8 5 k 0) + (nI 1)) dK_add_60 rfl ?_
  refine wr_iconst C (v := nI 4) dK_add_61 (by decide) ?_
  refine wr_mmin C tw_281 tw_21 tw_2 tw_22 (by decide) (by decide) (Nat.le_of_ble_eq_true rfl) ⟨Nat.le_refl _, Nat.le_refl _⟩ dK_add_62 ?_
  refine wp_Key_count C (by omega) (Or.inl tw_55) dK_add_65 ?_
  generalize hs9 : wc_st σ8 5 k 0 (wc_mn ((σ8 5 k 0) + (nI 1)) (nI 4)) = σ9
  exact wr_vret C hr hlk dK_add_68 rfl (by subst_vars; rfl) (by subst_vars; rfl)
set_option maxRecDepth 100000 in
set_option maxHeartbeats 4000000 in
theorem mc_holdsAt (l : Launch) (Γ : wc_G) (σ μ : wc_St) {t q : Nat} (ht : t < 5) (hq : q < 3) : wc_M l yT_holdsAt cT_holdsAt 3 (some .boolean) 0 Γ [.ref (Γ.2.2 (35 + t)), .int (nI q)] σ μ (some (.int (fc_holds σ t q))) (σ) μ := by
  refine wc_enter "WaitedCommits$Transaction" (by decide) rfl (Nat.le_of_ble_eq_true rfl) ?_
  intro P0 E0 S0 M0 A0 B0 T0 K0 C hr hlk
  refine wr_vs (vs' := [(0, .ref (Γ.2.2 (35 + t))), (1, .int (nI q))]) rfl ?_
  refine wr_iload_n C 1 dT_holdsAt_0 rfl rfl ?_
  refine wr_istore_n C (vs' := [(2, .int (nI q)), (0, .ref (Γ.2.2 (35 + t))), (1, .int (nI q))]) dT_holdsAt_1 rfl (by decide) rfl ?_
  refine wr_iload_n C 0 dT_holdsAt_2 rfl rfl ?_
  refine wr_bipush C (v := nI 9) dT_holdsAt_3 (by decide) ?_
  refine wr_icmp_ge C (tgt := 25) dT_holdsAt_5 (by decide) (fun h1 => absurd h1 (wc_noge (by omega) (by omega) (by omega))) (fun _ => ?_)
  refine wr_aload_n C 1 dT_holdsAt_8 rfl rfl ?_
  refine wf_Tx_locks C (by omega) (Or.inl tw_79) dT_holdsAt_9 ?_
  refine wr_iload_n C 0 dT_holdsAt_12 rfl rfl ?_
  refine wa_locks C (by omega) (by omega) dT_holdsAt_13 ?_
  refine wr_if_eq C (tgt := 19) dT_holdsAt_14 (by decide) (fun h2 => ?_) (fun h2 => ?_)
  ·
    refine wr_iinc C (v := nI (q + 3)) (vs' := [(2, .int (nI (q + 3))), (0, .ref (Γ.2.2 (35 + t))), (1, .int (nI q))]) 0 dT_holdsAt_19 rfl (wc_inc3 q) (by decide) rfl ?_
    refine wr_goto C (tgt := 2) dT_holdsAt_22 (by decide) ?_
    refine wr_iload_n C 0 dT_holdsAt_2 rfl rfl ?_
    refine wr_bipush C (v := nI 9) dT_holdsAt_3 (by decide) ?_
    refine wr_icmp_ge C (tgt := 25) dT_holdsAt_5 (by decide) (fun h3 => absurd h3 (wc_noge (by omega) (by omega) (by omega))) (fun _ => ?_)
    refine wr_aload_n C 1 dT_holdsAt_8 rfl rfl ?_
    refine wf_Tx_locks C (by omega) (Or.inl tw_79) dT_holdsAt_9 ?_
    refine wr_iload_n C 0 dT_holdsAt_12 rfl rfl ?_
    refine wa_locks C (by omega) (by omega) dT_holdsAt_13 ?_
    refine wr_if_eq C (tgt := 19) dT_holdsAt_14 (by decide) (fun h4 => ?_) (fun h4 => ?_)
    ·
      refine wr_iinc C (v := nI (q + 3 + 3)) (vs' := [(2, .int (nI (q + 3 + 3))), (0, .ref (Γ.2.2 (35 + t))), (1, .int (nI q))]) 0 dT_holdsAt_19 rfl (wc_inc3 (q + 3)) (by decide) rfl ?_
      refine wr_goto C (tgt := 2) dT_holdsAt_22 (by decide) ?_
      refine wr_iload_n C 0 dT_holdsAt_2 rfl rfl ?_
      refine wr_bipush C (v := nI 9) dT_holdsAt_3 (by decide) ?_
      refine wr_icmp_ge C (tgt := 25) dT_holdsAt_5 (by decide) (fun h5 => absurd h5 (wc_noge (by omega) (by omega) (by omega))) (fun _ => ?_)
      refine wr_aload_n C 1 dT_holdsAt_8 rfl rfl ?_
      refine wf_Tx_locks C (by omega) (Or.inl tw_79) dT_holdsAt_9 ?_
      refine wr_iload_n C 0 dT_holdsAt_12 rfl rfl ?_
      refine wa_locks C (by omega) (by omega) dT_holdsAt_13 ?_
      refine wr_if_eq C (tgt := 19) dT_holdsAt_14 (by decide) (fun h6 => ?_) (fun h6 => ?_)
      ·
        refine wr_iinc C (v := nI (q + 3 + 3 + 3)) (vs' := [(2, .int (nI (q + 3 + 3 + 3))), (0, .ref (Γ.2.2 (35 + t))), (1, .int (nI q))]) 0 dT_holdsAt_19 rfl (wc_inc3 (q + 3 + 3)) (by decide) rfl ?_
        refine wr_goto C (tgt := 2) dT_holdsAt_22 (by decide) ?_
        refine wr_iload_n C 0 dT_holdsAt_2 rfl rfl ?_
        refine wr_bipush C (v := nI 9) dT_holdsAt_3 (by decide) ?_
        refine wr_icmp_ge C (tgt := 25) dT_holdsAt_5 (by decide) (fun _ => ?_) (fun h7 => absurd (wc_yesge (by omega) (by omega) (by omega)) h7)
        refine wr_iconst C (v := nI 0) dT_holdsAt_25 (by decide) ?_
        exact wr_iret C hr rfl hlk dT_holdsAt_26 (by subst_vars; first | (simp [fc_holds, wc_nIe, wc_nI0, wc_nIm, *]; done) | (simp_all [fc_holds, wc_nIe, wc_nI0, wc_nIm]; done)) (by rfl) (by rfl)
      ·
        refine wr_iconst C (v := nI 1) dT_holdsAt_17 (by decide) ?_
        exact wr_iret C hr rfl hlk dT_holdsAt_18 (by subst_vars; first | (simp [fc_holds, wc_nIe, wc_nI0, wc_nIm, *]; done) | (simp_all [fc_holds, wc_nIe, wc_nI0, wc_nIm]; done)) (by rfl) (by rfl)
    ·
      refine wr_iconst C (v := nI 1) dT_holdsAt_17 (by decide) ?_
      exact wr_iret C hr rfl hlk dT_holdsAt_18 (by subst_vars; first | (simp [fc_holds, wc_nIe, wc_nI0, wc_nIm, *]; done) | (simp_all [fc_holds, wc_nIe, wc_nI0, wc_nIm]; done)) (by rfl) (by rfl)
  ·
    refine wr_iconst C (v := nI 1) dT_holdsAt_17 (by decide) ?_
    exact wr_iret C hr rfl hlk dT_holdsAt_18 (by subst_vars; first | (simp [fc_holds, wc_nIe, wc_nI0, wc_nIm, *]; done) | (simp_all [fc_holds, wc_nIe, wc_nI0, wc_nIm]; done)) (by rfl) (by rfl)
set_option maxRecDepth 100000 in
set_option maxHeartbeats 4000000 in
theorem mc_least (l : Launch) (Γ : wc_G) (σ μ : wc_St) {t : Nat} (ht : t < 5) : wc_M l yT_leastParticipant cT_leastParticipant 2 (some .int) 1 Γ [.ref (Γ.2.2 (35 + t))] σ μ (some (.int (fc_least σ t))) (σ) μ := by
  refine wc_enter "WaitedCommits$Transaction" (by decide) rfl (Nat.le_of_ble_eq_true rfl) ?_
  intro P0 E0 S0 M0 A0 B0 T0 K0 C hr hlk
  refine wr_vs (vs' := [(0, .ref (Γ.2.2 (35 + t)))]) rfl ?_
  refine wr_iconst C (v := nI 0) dT_leastParticipant_0 (by decide) ?_
  refine wr_istore_n C (vs' := [(1, .int (nI 0)), (0, .ref (Γ.2.2 (35 + t)))]) dT_leastParticipant_1 rfl (by decide) rfl ?_
  refine wr_iload_n C 0 dT_leastParticipant_2 rfl rfl ?_
  refine wr_iconst C (v := nI 3) dT_leastParticipant_3 (by decide) ?_
  refine wr_icmp_ge C (tgt := 23) dT_leastParticipant_4 (by decide) (fun h1 => absurd h1 (by decide)) (fun _ => ?_)
  refine wr_aload_n C 1 dT_leastParticipant_7 rfl rfl ?_
  refine wr_iload_n C 0 dT_leastParticipant_8 rfl rfl ?_
  refine wr_callV1 C (As := [.int (nI 0)]) (rest := []) (mc_holdsAt l Γ σ μ (t := t) (q := 0) (by omega) (by omega)) cb_T_holdsAt (Or.inl tw_167) tw_168 tw_531 (by omega) (wc_c_Tx (by omega)) rfl (by decide) (by decide) rfl rfl (Nat.le_of_ble_eq_true rfl) ⟨Nat.le_refl _, Nat.le_refl _⟩ dT_leastParticipant_9 ?_
  refine wr_if_eq C (tgt := 17) dT_leastParticipant_12 (by decide) (fun h2 => ?_) (fun h2 => ?_)
  ·
    refine wr_iinc C (v := nI 1) (vs' := [(1, .int (nI 1)), (0, .ref (Γ.2.2 (35 + t)))]) 0 dT_leastParticipant_17 rfl (by decide) (by decide) rfl ?_
    refine wr_goto C (tgt := 2) dT_leastParticipant_20 (by decide) ?_
    refine wr_iload_n C 0 dT_leastParticipant_2 rfl rfl ?_
    refine wr_iconst C (v := nI 3) dT_leastParticipant_3 (by decide) ?_
    refine wr_icmp_ge C (tgt := 23) dT_leastParticipant_4 (by decide) (fun h3 => absurd h3 (by decide)) (fun _ => ?_)
    refine wr_aload_n C 1 dT_leastParticipant_7 rfl rfl ?_
    refine wr_iload_n C 0 dT_leastParticipant_8 rfl rfl ?_
    refine wr_callV1 C (As := [.int (nI 1)]) (rest := []) (mc_holdsAt l Γ σ μ (t := t) (q := 1) (by omega) (by omega)) cb_T_holdsAt (Or.inl tw_167) tw_168 tw_531 (by omega) (wc_c_Tx (by omega)) rfl (by decide) (by decide) rfl rfl (Nat.le_of_ble_eq_true rfl) ⟨Nat.le_refl _, Nat.le_refl _⟩ dT_leastParticipant_9 ?_
    refine wr_if_eq C (tgt := 17) dT_leastParticipant_12 (by decide) (fun h4 => ?_) (fun h4 => ?_)
    ·
      refine wr_iinc C (v := nI 2) (vs' := [(1, .int (nI 2)), (0, .ref (Γ.2.2 (35 + t)))]) 0 dT_leastParticipant_17 rfl (by decide) (by decide) rfl ?_
      refine wr_goto C (tgt := 2) dT_leastParticipant_20 (by decide) ?_
      refine wr_iload_n C 0 dT_leastParticipant_2 rfl rfl ?_
      refine wr_iconst C (v := nI 3) dT_leastParticipant_3 (by decide) ?_
      refine wr_icmp_ge C (tgt := 23) dT_leastParticipant_4 (by decide) (fun h5 => absurd h5 (by decide)) (fun _ => ?_)
      refine wr_aload_n C 1 dT_leastParticipant_7 rfl rfl ?_
      refine wr_iload_n C 0 dT_leastParticipant_8 rfl rfl ?_
      refine wr_callV1 C (As := [.int (nI 2)]) (rest := []) (mc_holdsAt l Γ σ μ (t := t) (q := 2) (by omega) (by omega)) cb_T_holdsAt (Or.inl tw_167) tw_168 tw_531 (by omega) (wc_c_Tx (by omega)) rfl (by decide) (by decide) rfl rfl (Nat.le_of_ble_eq_true rfl) ⟨Nat.le_refl _, Nat.le_refl _⟩ dT_leastParticipant_9 ?_
      refine wr_if_eq C (tgt := 17) dT_leastParticipant_12 (by decide) (fun h6 => ?_) (fun h6 => ?_)
      ·
        refine wr_iinc C (v := nI 3) (vs' := [(1, .int (nI 3)), (0, .ref (Γ.2.2 (35 + t)))]) 0 dT_leastParticipant_17 rfl (by decide) (by decide) rfl ?_
        refine wr_goto C (tgt := 2) dT_leastParticipant_20 (by decide) ?_
        refine wr_iload_n C 0 dT_leastParticipant_2 rfl rfl ?_
        refine wr_iconst C (v := nI 3) dT_leastParticipant_3 (by decide) ?_
        refine wr_icmp_ge C (tgt := 23) dT_leastParticipant_4 (by decide) (fun _ => ?_) (fun h7 => absurd (by decide) h7)
        refine wr_iconst C (v := -1) dT_leastParticipant_23 (by decide) ?_
        exact wr_iret C hr rfl hlk dT_leastParticipant_24 (by subst_vars; first | (simp [fc_least, wc_nIe, wc_nI0, wc_nIm, *]; done) | (simp_all [fc_least, wc_nIe, wc_nI0, wc_nIm]; done)) (by rfl) (by rfl)
      ·
        refine wr_iload_n C 0 dT_leastParticipant_15 rfl rfl ?_
        exact wr_iret C hr rfl hlk dT_leastParticipant_16 (by subst_vars; first | (simp [fc_least, wc_nIe, wc_nI0, wc_nIm, *]; done) | (simp_all [fc_least, wc_nIe, wc_nI0, wc_nIm]; done)) (by rfl) (by rfl)
    ·
      refine wr_iload_n C 0 dT_leastParticipant_15 rfl rfl ?_
      exact wr_iret C hr rfl hlk dT_leastParticipant_16 (by subst_vars; first | (simp [fc_least, wc_nIe, wc_nI0, wc_nIm, *]; done) | (simp_all [fc_least, wc_nIe, wc_nI0, wc_nIm]; done)) (by rfl) (by rfl)
  ·
    refine wr_iload_n C 0 dT_leastParticipant_15 rfl rfl ?_
    exact wr_iret C hr rfl hlk dT_leastParticipant_16 (by subst_vars; first | (simp [fc_least, wc_nIe, wc_nI0, wc_nIm, *]; done) | (simp_all [fc_least, wc_nIe, wc_nI0, wc_nIm]; done)) (by rfl) (by rfl)
set_option maxRecDepth 100000 in
set_option maxHeartbeats 4000000 in
theorem mc_unlockAt (l : Launch) (Γ : wc_G) (σ μ : wc_St) {t q : Nat} (ht : t < 5) (hq : q < 3) : wc_M l yT_unlockAt cT_unlockAt 3 none 0 Γ [.ref (Γ.2.2 (35 + t)), .int (nI q)] σ μ none (fc_unlock σ t q) μ := by
  refine wc_enter "WaitedCommits$Transaction" (by decide) rfl (Nat.le_of_ble_eq_true rfl) ?_
  intro P0 E0 S0 M0 A0 B0 T0 K0 C hr hlk
  refine wr_vs (vs' := [(0, .ref (Γ.2.2 (35 + t))), (1, .int (nI q))]) rfl ?_
  refine wr_iload_n C 1 dT_unlockAt_0 rfl rfl ?_
  refine wr_istore_n C (vs' := [(2, .int (nI q)), (0, .ref (Γ.2.2 (35 + t))), (1, .int (nI q))]) dT_unlockAt_1 rfl (by decide) rfl ?_
  refine wr_iload_n C 0 dT_unlockAt_2 rfl rfl ?_
  refine wr_bipush C (v := nI 9) dT_unlockAt_3 (by decide) ?_
  refine wr_icmp_ge C (tgt := 21) dT_unlockAt_5 (by decide) (fun h1 => absurd h1 (wc_noge (by omega) (by omega) (by omega))) (fun _ => ?_)
  refine wr_aload_n C 1 dT_unlockAt_8 rfl rfl ?_
  refine wf_Tx_locks C (by omega) (Or.inl tw_79) dT_unlockAt_9 ?_
  refine wr_iload_n C 0 dT_unlockAt_12 rfl rfl ?_
  refine wr_iconst C (v := nI 0) dT_unlockAt_13 (by decide) ?_
  refine ws_locks C (by omega) (by omega) dT_unlockAt_14 ?_
  generalize hs1 : wc_st σ 15 t q (nI 0) = σ1
  refine wr_iinc C (v := nI (q + 3)) (vs' := [(2, .int (nI (q + 3))), (0, .ref (Γ.2.2 (35 + t))), (1, .int (nI q))]) 0 dT_unlockAt_15 rfl (wc_inc3 q) (by decide) rfl ?_
  refine wr_goto C (tgt := 2) dT_unlockAt_18 (by decide) ?_
  refine wr_iload_n C 0 dT_unlockAt_2 rfl rfl ?_
  refine wr_bipush C (v := nI 9) dT_unlockAt_3 (by decide) ?_
  refine wr_icmp_ge C (tgt := 21) dT_unlockAt_5 (by decide) (fun h2 => absurd h2 (wc_noge (by omega) (by omega) (by omega))) (fun _ => ?_)
  refine wr_aload_n C 1 dT_unlockAt_8 rfl rfl ?_
  refine wf_Tx_locks C (by omega) (Or.inl tw_79) dT_unlockAt_9 ?_
  refine wr_iload_n C 0 dT_unlockAt_12 rfl rfl ?_
  refine wr_iconst C (v := nI 0) dT_unlockAt_13 (by decide) ?_
  refine ws_locks C (by omega) (by omega) dT_unlockAt_14 ?_
  generalize hs2 : wc_st σ1 15 t (q + 3) (nI 0) = σ2
  refine wr_iinc C (v := nI (q + 3 + 3)) (vs' := [(2, .int (nI (q + 3 + 3))), (0, .ref (Γ.2.2 (35 + t))), (1, .int (nI q))]) 0 dT_unlockAt_15 rfl (wc_inc3 (q + 3)) (by decide) rfl ?_
  refine wr_goto C (tgt := 2) dT_unlockAt_18 (by decide) ?_
  refine wr_iload_n C 0 dT_unlockAt_2 rfl rfl ?_
  refine wr_bipush C (v := nI 9) dT_unlockAt_3 (by decide) ?_
  refine wr_icmp_ge C (tgt := 21) dT_unlockAt_5 (by decide) (fun h3 => absurd h3 (wc_noge (by omega) (by omega) (by omega))) (fun _ => ?_)
  refine wr_aload_n C 1 dT_unlockAt_8 rfl rfl ?_
  refine wf_Tx_locks C (by omega) (Or.inl tw_79) dT_unlockAt_9 ?_
  refine wr_iload_n C 0 dT_unlockAt_12 rfl rfl ?_
  refine wr_iconst C (v := nI 0) dT_unlockAt_13 (by decide) ?_
  refine ws_locks C (by omega) (by omega) dT_unlockAt_14 ?_
  generalize hs3 : wc_st σ2 15 t (q + 3 + 3) (nI 0) = σ3
  refine wr_iinc C (v := nI (q + 3 + 3 + 3)) (vs' := [(2, .int (nI (q + 3 + 3 + 3))), (0, .ref (Γ.2.2 (35 + t))), (1, .int (nI q))]) 0 dT_unlockAt_15 rfl (wc_inc3 (q + 3 + 3)) (by decide) rfl ?_
  refine wr_goto C (tgt := 2) dT_unlockAt_18 (by decide) ?_
  refine wr_iload_n C 0 dT_unlockAt_2 rfl rfl ?_
  refine wr_bipush C (v := nI 9) dT_unlockAt_3 (by decide) ?_
  refine wr_icmp_ge C (tgt := 21) dT_unlockAt_5 (by decide) (fun _ => ?_) (fun h4 => absurd (wc_yesge (by omega) (by omega) (by omega)) h4)
  exact wr_vret C hr hlk dT_unlockAt_21 rfl (by subst_vars; rfl) (by subst_vars; rfl)
set_option maxRecDepth 100000 in
set_option maxHeartbeats 4000000 in
theorem mc_giveUp (l : Launch) (Γ : wc_G) (σ μ : wc_St) {t : Nat} (ht : t < 5) : wc_M l yT_giveUp cT_giveUp 2 none 1 Γ [.ref (Γ.2.2 (35 + t))] σ μ none (fc_giveUp σ t) μ := by
  refine wc_enter "WaitedCommits$Transaction" (by decide) rfl (Nat.le_of_ble_eq_true rfl) ?_
  intro P0 E0 S0 M0 A0 B0 T0 K0 C hr hlk
  refine wr_vs (vs' := [(0, .ref (Γ.2.2 (35 + t)))]) rfl ?_
  refine wr_iconst C (v := nI 0) dT_giveUp_0 (by decide) ?_
  refine wr_istore_n C (vs' := [(1, .int (nI 0)), (0, .ref (Γ.2.2 (35 + t)))]) dT_giveUp_1 rfl (by decide) rfl ?_
  refine wr_iload_n C 0 dT_giveUp_2 rfl rfl ?_
  refine wr_iconst C (v := nI 3) dT_giveUp_3 (by decide) ?_
  refine wr_icmp_ge C (tgt := 18) dT_giveUp_4 (by decide) (fun h1 => absurd h1 (by decide)) (fun _ => ?_)
  refine wr_aload_n C 1 dT_giveUp_7 rfl rfl ?_
  refine wr_iload_n C 0 dT_giveUp_8 rfl rfl ?_
  refine wr_callV0 C (As := [.int (nI 0)]) (rest := []) (mc_unlockAt l Γ σ μ (t := t) (q := 0) (by omega) (by omega)) cb_T_unlockAt (Or.inl tw_195) tw_196 tw_535 (by omega) (wc_c_Tx (by omega)) rfl (by decide) (by decide) rfl rfl (Nat.le_of_ble_eq_true rfl) ⟨Nat.le_refl _, Nat.le_refl _⟩ dT_giveUp_9 ?_
  generalize hs1 : fc_unlock σ t 0 = σ1
  refine wr_iinc C (v := nI 1) (vs' := [(1, .int (nI 1)), (0, .ref (Γ.2.2 (35 + t)))]) 0 dT_giveUp_12 rfl (by decide) (by decide) rfl ?_
  refine wr_goto C (tgt := 2) dT_giveUp_15 (by decide) ?_
  refine wr_iload_n C 0 dT_giveUp_2 rfl rfl ?_
  refine wr_iconst C (v := nI 3) dT_giveUp_3 (by decide) ?_
  refine wr_icmp_ge C (tgt := 18) dT_giveUp_4 (by decide) (fun h2 => absurd h2 (by decide)) (fun _ => ?_)
  refine wr_aload_n C 1 dT_giveUp_7 rfl rfl ?_
  refine wr_iload_n C 0 dT_giveUp_8 rfl rfl ?_
  refine wr_callV0 C (As := [.int (nI 1)]) (rest := []) (mc_unlockAt l Γ σ1 μ (t := t) (q := 1) (by omega) (by omega)) cb_T_unlockAt (Or.inl tw_195) tw_196 tw_535 (by omega) (wc_c_Tx (by omega)) rfl (by decide) (by decide) rfl rfl (Nat.le_of_ble_eq_true rfl) ⟨Nat.le_refl _, Nat.le_refl _⟩ dT_giveUp_9 ?_
  generalize hs2 : fc_unlock σ1 t 1 = σ2
  refine wr_iinc C (v := nI 2) (vs' := [(1, .int (nI 2)), (0, .ref (Γ.2.2 (35 + t)))]) 0 dT_giveUp_12 rfl (by decide) (by decide) rfl ?_
  refine wr_goto C (tgt := 2) dT_giveUp_15 (by decide) ?_
  refine wr_iload_n C 0 dT_giveUp_2 rfl rfl ?_
  refine wr_iconst C (v := nI 3) dT_giveUp_3 (by decide) ?_
  refine wr_icmp_ge C (tgt := 18) dT_giveUp_4 (by decide) (fun h3 => absurd h3 (by decide)) (fun _ => ?_)
  refine wr_aload_n C 1 dT_giveUp_7 rfl rfl ?_
  refine wr_iload_n C 0 dT_giveUp_8 rfl rfl ?_
  refine wr_callV0 C (As := [.int (nI 2)]) (rest := []) (mc_unlockAt l Γ σ2 μ (t := t) (q := 2) (by omega) (by omega)) cb_T_unlockAt (Or.inl tw_195) tw_196 tw_535 (by omega) (wc_c_Tx (by omega)) rfl (by decide) (by decide) rfl rfl (Nat.le_of_ble_eq_true rfl) ⟨Nat.le_refl _, Nat.le_refl _⟩ dT_giveUp_9 ?_
  generalize hs3 : fc_unlock σ2 t 2 = σ3
  refine wr_iinc C (v := nI 3) (vs' := [(1, .int (nI 3)), (0, .ref (Γ.2.2 (35 + t)))]) 0 dT_giveUp_12 rfl (by decide) (by decide) rfl ?_
  refine wr_goto C (tgt := 2) dT_giveUp_15 (by decide) ?_
  refine wr_iload_n C 0 dT_giveUp_2 rfl rfl ?_
  refine wr_iconst C (v := nI 3) dT_giveUp_3 (by decide) ?_
  refine wr_icmp_ge C (tgt := 18) dT_giveUp_4 (by decide) (fun _ => ?_) (fun h4 => absurd (by decide) h4)
  refine wr_aload_n C 1 dT_giveUp_18 rfl rfl ?_
  refine wr_iconst C (v := nI 5) dT_giveUp_19 (by decide) ?_
  refine wp_Tx_state C (by omega) (Or.inl tw_65) dT_giveUp_20 ?_
  generalize hs4 : wc_st σ3 8 t 0 (nI 5) = σ4
  exact wr_vret C hr hlk dT_giveUp_23 rfl (by subst_vars; rfl) (by subst_vars; rfl)
set_option maxRecDepth 100000 in
set_option maxHeartbeats 4000000 in
theorem mc_gm (l : Launch) (Γ : wc_G) (σ μ : wc_St) {t : Nat} (ht : t < 5) : wc_M l yT_greatestMark cT_greatestMark 3 (some .int) 1 Γ [.ref (Γ.2.2 (35 + t))] σ μ (some (.int (fc_gm σ t))) (σ) μ := by
  refine wc_enter "WaitedCommits$Transaction" (by decide) rfl (Nat.le_of_ble_eq_true rfl) ?_
  intro P0 E0 S0 M0 A0 B0 T0 K0 C hr hlk
  refine wr_vs (vs' := [(0, .ref (Γ.2.2 (35 + t)))]) rfl ?_
  refine wr_iconst C (v := nI 0) dT_greatestMark_0 (by decide) ?_
  refine wr_istore_n C (vs' := [(1, .int (nI 0)), (0, .ref (Γ.2.2 (35 + t)))]) dT_greatestMark_1 rfl (by decide) rfl ?_
  refine wr_iconst C (v := nI 0) dT_greatestMark_2 (by decide) ?_
  refine wr_istore_n C (vs' := [(2, .int (nI 0)), (1, .int (nI 0)), (0, .ref (Γ.2.2 (35 + t)))]) dT_greatestMark_3 rfl (by decide) rfl ?_
  refine wr_iload_n C 0 dT_greatestMark_4 rfl rfl ?_
  refine wr_iconst C (v := nI 3) dT_greatestMark_5 (by decide) ?_
  refine wr_icmp_ge C (tgt := 26) dT_greatestMark_6 (by decide) (fun h1 => absurd h1 (by decide)) (fun _ => ?_)
  refine wr_iload_n C 1 dT_greatestMark_9 rfl rfl ?_
  refine wr_aload_n C 2 dT_greatestMark_10 rfl rfl ?_
  refine wf_Tx_marks C (by omega) (Or.inl tw_83) dT_greatestMark_11 ?_
  refine wr_iload_n C 0 dT_greatestMark_14 rfl rfl ?_
  refine wa_marks C (by omega) (by omega) dT_greatestMark_15 ?_
  refine wr_mmax C tw_226 tw_24 tw_2 tw_25 (by decide) (by decide) (Nat.le_of_ble_eq_true rfl) ⟨Nat.le_refl _, Nat.le_refl _⟩ dT_greatestMark_16 ?_
  refine wr_istore_n C (vs' := [(1, .int (wc_mx (nI 0) (σ 17 t 0))), (2, .int (nI 0)), (0, .ref (Γ.2.2 (35 + t)))]) dT_greatestMark_19 rfl (by decide) rfl ?_
  refine wr_iinc C (v := nI 1) (vs' := [(2, .int (nI 1)), (1, .int (wc_mx (nI 0) (σ 17 t 0))), (0, .ref (Γ.2.2 (35 + t)))]) 1 dT_greatestMark_20 rfl (by decide) (by decide) rfl ?_
  refine wr_goto C (tgt := 4) dT_greatestMark_23 (by decide) ?_
  refine wr_iload_n C 0 dT_greatestMark_4 rfl rfl ?_
  refine wr_iconst C (v := nI 3) dT_greatestMark_5 (by decide) ?_
  refine wr_icmp_ge C (tgt := 26) dT_greatestMark_6 (by decide) (fun h2 => absurd h2 (by decide)) (fun _ => ?_)
  refine wr_iload_n C 1 dT_greatestMark_9 rfl rfl ?_
  refine wr_aload_n C 2 dT_greatestMark_10 rfl rfl ?_
  refine wf_Tx_marks C (by omega) (Or.inl tw_83) dT_greatestMark_11 ?_
  refine wr_iload_n C 0 dT_greatestMark_14 rfl rfl ?_
  refine wa_marks C (by omega) (by omega) dT_greatestMark_15 ?_
  refine wr_mmax C tw_226 tw_24 tw_2 tw_25 (by decide) (by decide) (Nat.le_of_ble_eq_true rfl) ⟨Nat.le_refl _, Nat.le_refl _⟩ dT_greatestMark_16 ?_
  refine wr_istore_n C (vs' := [(1, .int (wc_mx (wc_mx (nI 0) (σ 17 t 0)) (σ 17 t 1))), (2, .int (nI 1)), (0, .ref (Γ.2.2 (35 + t)))]) dT_greatestMark_19 rfl (by decide) rfl ?_
  refine wr_iinc C (v := nI 2) (vs' := [(2, .int (nI 2)), (1, .int (wc_mx (wc_mx (nI 0) (σ 17 t 0)) (σ 17 t 1))), (0, .ref (Γ.2.2 (35 + t)))]) 1 dT_greatestMark_20 rfl (by decide) (by decide) rfl ?_
  refine wr_goto C (tgt := 4) dT_greatestMark_23 (by decide) ?_
  refine wr_iload_n C 0 dT_greatestMark_4 rfl rfl ?_
  refine wr_iconst C (v := nI 3) dT_greatestMark_5 (by decide) ?_
  refine wr_icmp_ge C (tgt := 26) dT_greatestMark_6 (by decide) (fun h3 => absurd h3 (by decide)) (fun _ => ?_)
  refine wr_iload_n C 1 dT_greatestMark_9 rfl rfl ?_
  refine wr_aload_n C 2 dT_greatestMark_10 rfl rfl ?_
  refine wf_Tx_marks C (by omega) (Or.inl tw_83) dT_greatestMark_11 ?_
  refine wr_iload_n C 0 dT_greatestMark_14 rfl rfl ?_
  refine wa_marks C (by omega) (by omega) dT_greatestMark_15 ?_
  refine wr_mmax C tw_226 tw_24 tw_2 tw_25 (by decide) (by decide) (Nat.le_of_ble_eq_true rfl) ⟨Nat.le_refl _, Nat.le_refl _⟩ dT_greatestMark_16 ?_
  refine wr_istore_n C (vs' := [(1, .int (wc_mx (wc_mx (wc_mx (nI 0) (σ 17 t 0)) (σ 17 t 1)) (σ 17 t 2))), (2, .int (nI 2)), (0, .ref (Γ.2.2 (35 + t)))]) dT_greatestMark_19 rfl (by decide) rfl ?_
  refine wr_iinc C (v := nI 3) (vs' := [(2, .int (nI 3)), (1, .int (wc_mx (wc_mx (wc_mx (nI 0) (σ 17 t 0)) (σ 17 t 1)) (σ 17 t 2))), (0, .ref (Γ.2.2 (35 + t)))]) 1 dT_greatestMark_20 rfl (by decide) (by decide) rfl ?_
  refine wr_goto C (tgt := 4) dT_greatestMark_23 (by decide) ?_
  refine wr_iload_n C 0 dT_greatestMark_4 rfl rfl ?_
  refine wr_iconst C (v := nI 3) dT_greatestMark_5 (by decide) ?_
  refine wr_icmp_ge C (tgt := 26) dT_greatestMark_6 (by decide) (fun _ => ?_) (fun h4 => absurd (by decide) h4)
  refine wr_iload_n C 1 dT_greatestMark_26 rfl rfl ?_
  exact wr_iret C hr rfl hlk dT_greatestMark_27 (by rfl) (by rfl) (by rfl)
set_option maxRecDepth 100000 in
set_option maxHeartbeats 4000000 in
theorem mc_before (l : Launch) (Γ : wc_G) (σ μ : wc_St) {i j : Nat} (hi : i < 15) (hj : j < 15) : wc_M l yG_comesBefore cG_comesBefore 2 (some .boolean) 0 Γ [.ref (Γ.2.2 (55 + i)), .ref (Γ.2.2 (55 + j))] σ μ (some (.int (fc_before σ i j))) (σ) μ := by
  refine wc_enter "WaitedCommits$Message" (by decide) rfl (Nat.le_of_ble_eq_true rfl) ?_
  intro P0 E0 S0 M0 A0 B0 T0 K0 C hr hlk
  refine wr_vs (vs' := [(0, .ref (Γ.2.2 (55 + i))), (1, .ref (Γ.2.2 (55 + j)))]) rfl ?_
  refine wr_aload_n C 0 dG_comesBefore_0 rfl rfl ?_
  refine wf_Msg_arrival C (by omega) (Or.inl tw_108) dG_comesBefore_1 ?_
  refine wr_aload_n C 1 dG_comesBefore_4 rfl rfl ?_
  refine wf_Msg_arrival C (by omega) (Or.inl tw_108) dG_comesBefore_5 ?_
  refine wr_icmp_lt C (tgt := 33) dG_comesBefore_8 (by decide) (fun h1 => ?_) (fun h1 => ?_)
  ·
    refine wr_iconst C (v := nI 1) dG_comesBefore_33 (by decide) ?_
    refine wr_goto C (tgt := 38) dG_comesBefore_34 (by decide) ?_
    exact wr_iret C hr rfl hlk dG_comesBefore_38 (by subst_vars; first | (simp [fc_before, wc_nIe, wc_nI0, wc_nIm, *]; done) | (simp_all [fc_before, wc_nIe, wc_nI0, wc_nIm]; done)) (by rfl) (by rfl)
  ·
    refine wr_aload_n C 0 dG_comesBefore_11 rfl rfl ?_
    refine wf_Msg_arrival C (by omega) (Or.inl tw_108) dG_comesBefore_12 ?_
    refine wr_aload_n C 1 dG_comesBefore_15 rfl rfl ?_
    refine wf_Msg_arrival C (by omega) (Or.inl tw_108) dG_comesBefore_16 ?_
    refine wr_icmp_ne C (tgt := 37) dG_comesBefore_19 (by decide) (fun h2 => ?_) (fun h2 => ?_)
    ·
      refine wr_iconst C (v := nI 0) dG_comesBefore_37 (by decide) ?_
      exact wr_iret C hr rfl hlk dG_comesBefore_38 (by subst_vars; first | (simp [fc_before, wc_nIe, wc_nI0, wc_nIm, *]; done) | (simp_all [fc_before, wc_nIe, wc_nI0, wc_nIm]; done)) (by rfl) (by rfl)
    ·
      refine wr_aload_n C 0 dG_comesBefore_22 rfl rfl ?_
      refine wf_Msg_order C (by omega) (Or.inl tw_110) dG_comesBefore_23 ?_
      refine wr_aload_n C 1 dG_comesBefore_26 rfl rfl ?_
      refine wf_Msg_order C (by omega) (Or.inl tw_110) dG_comesBefore_27 ?_
      refine wr_icmp_ge C (tgt := 37) dG_comesBefore_30 (by decide) (fun h3 => ?_) (fun h3 => ?_)
      ·
        refine wr_iconst C (v := nI 0) dG_comesBefore_37 (by decide) ?_
        exact wr_iret C hr rfl hlk dG_comesBefore_38 (by subst_vars; first | (simp [fc_before, wc_nIe, wc_nI0, wc_nIm, *]; done) | (simp_all [fc_before, wc_nIe, wc_nI0, wc_nIm]; done)) (by rfl) (by rfl)
      ·
        refine wr_iconst C (v := nI 1) dG_comesBefore_33 (by decide) ?_
        refine wr_goto C (tgt := 38) dG_comesBefore_34 (by decide) ?_
        exact wr_iret C hr rfl hlk dG_comesBefore_38 (by subst_vars; first | (simp [fc_before, wc_nIe, wc_nI0, wc_nIm, *]; done) | (simp_all [fc_before, wc_nIe, wc_nI0, wc_nIm]; done)) (by rfl) (by rfl)
set_option maxRecDepth 100000 in
set_option maxHeartbeats 4000000 in
theorem mc_isSite (l : Launch) (Γ : wc_G) (σ μ : wc_St) (a : Int32) : wc_M l yW_isSite cW_isSite 1 (some .boolean) 0 Γ [.int a] σ μ (some (.int (wc_in a 3))) (σ) μ := by
  refine wc_enter "WaitedCommits" (by decide) rfl (Nat.le_of_ble_eq_true rfl) ?_
  intro P0 E0 S0 M0 A0 B0 T0 K0 C hr hlk
  refine wr_vs (vs' := [(0, .int a)]) rfl ?_
  refine wr_iload_n C 0 dW_isSite_0 rfl rfl ?_
  refine wr_if_lt C (tgt := 13) dW_isSite_1 (by decide) (fun h1 => ?_) (fun h1 => ?_)
  ·
    refine wr_iconst C (v := nI 0) dW_isSite_13 (by decide) ?_
    exact wr_iret C hr rfl hlk dW_isSite_14 (by subst_vars; first | (simp [wc_in, wc_nIe, wc_nI0, wc_nIm, *]; done) | (simp_all [wc_in, wc_nIe, wc_nI0, wc_nIm]; done)) (by rfl) (by rfl)
  ·
    refine wr_iload_n C 0 dW_isSite_4 rfl rfl ?_
    refine wr_iconst C (v := nI 3) dW_isSite_5 (by decide) ?_
    refine wr_icmp_ge C (tgt := 13) dW_isSite_6 (by decide) (fun h2 => ?_) (fun h2 => ?_)
    ·
      refine wr_iconst C (v := nI 0) dW_isSite_13 (by decide) ?_
      exact wr_iret C hr rfl hlk dW_isSite_14 (by subst_vars; first | (simp [wc_in, wc_nIe, wc_nI0, wc_nIm, *]; done) | (simp_all [wc_in, wc_nIe, wc_nI0, wc_nIm]; done)) (by rfl) (by rfl)
    ·
      refine wr_iconst C (v := nI 1) dW_isSite_9 (by decide) ?_
      refine wr_goto C (tgt := 14) dW_isSite_10 (by decide) ?_
      exact wr_iret C hr rfl hlk dW_isSite_14 (by subst_vars; first | (simp [wc_in, wc_nIe, wc_nI0, wc_nIm, *]; done) | (simp_all [wc_in, wc_nIe, wc_nI0, wc_nIm]; done)) (by rfl) (by rfl)
theorem mc_isSiteI (l : Launch) (Γ : wc_G) (σ μ : wc_St) {j : Nat} (hj : j < 3) : wc_M l yW_isSite cW_isSite 1 (some .boolean) 0 Γ [.int (nI j)] σ μ (some (.int (nI 1))) σ μ := by
  have h := mc_isSite l Γ σ μ (nI j)
  rw [wc_in_I hj (by decide)] at h
  exact h
theorem mc_isSiteO (l : Launch) (Γ : wc_G) (σ μ : wc_St) (a : Int32) (h : a < 0 ∨ nI 3 ≤ a) : wc_M l yW_isSite cW_isSite 1 (some .boolean) 0 Γ [.int a] σ μ (some (.int (nI 0))) σ μ := by
  have h2 := mc_isSite l Γ σ μ a
  rw [wc_in_O h] at h2
  exact h2
set_option maxRecDepth 100000 in
set_option maxHeartbeats 4000000 in
theorem mc_isKey (l : Launch) (Γ : wc_G) (σ μ : wc_St) (a : Int32) : wc_M l yW_isKey cW_isKey 1 (some .boolean) 0 Γ [.int a] σ μ (some (.int (wc_in a 9))) (σ) μ := by
  refine wc_enter "WaitedCommits" (by decide) rfl (Nat.le_of_ble_eq_true rfl) ?_
  intro P0 E0 S0 M0 A0 B0 T0 K0 C hr hlk
  refine wr_vs (vs' := [(0, .int a)]) rfl ?_
  refine wr_iload_n C 0 dW_isKey_0 rfl rfl ?_
  refine wr_if_lt C (tgt := 14) dW_isKey_1 (by decide) (fun h1 => ?_) (fun h1 => ?_)
  ·
    refine wr_iconst C (v := nI 0) dW_isKey_14 (by decide) ?_
    exact wr_iret C hr rfl hlk dW_isKey_15 (by subst_vars; first | (simp [wc_in, wc_nIe, wc_nI0, wc_nIm, *]; done) | (simp_all [wc_in, wc_nIe, wc_nI0, wc_nIm]; done)) (by rfl) (by rfl)
  ·
    refine wr_iload_n C 0 dW_isKey_4 rfl rfl ?_
    refine wr_bipush C (v := nI 9) dW_isKey_5 (by decide) ?_
    refine wr_icmp_ge C (tgt := 14) dW_isKey_7 (by decide) (fun h2 => ?_) (fun h2 => ?_)
    ·
      refine wr_iconst C (v := nI 0) dW_isKey_14 (by decide) ?_
      exact wr_iret C hr rfl hlk dW_isKey_15 (by subst_vars; first | (simp [wc_in, wc_nIe, wc_nI0, wc_nIm, *]; done) | (simp_all [wc_in, wc_nIe, wc_nI0, wc_nIm]; done)) (by rfl) (by rfl)
    ·
      refine wr_iconst C (v := nI 1) dW_isKey_10 (by decide) ?_
      refine wr_goto C (tgt := 15) dW_isKey_11 (by decide) ?_
      exact wr_iret C hr rfl hlk dW_isKey_15 (by subst_vars; first | (simp [wc_in, wc_nIe, wc_nI0, wc_nIm, *]; done) | (simp_all [wc_in, wc_nIe, wc_nI0, wc_nIm]; done)) (by rfl) (by rfl)
theorem mc_isKeyI (l : Launch) (Γ : wc_G) (σ μ : wc_St) {j : Nat} (hj : j < 9) : wc_M l yW_isKey cW_isKey 1 (some .boolean) 0 Γ [.int (nI j)] σ μ (some (.int (nI 1))) σ μ := by
  have h := mc_isKey l Γ σ μ (nI j)
  rw [wc_in_I hj (by decide)] at h
  exact h
theorem mc_isKeyO (l : Launch) (Γ : wc_G) (σ μ : wc_St) (a : Int32) (h : a < 0 ∨ nI 9 ≤ a) : wc_M l yW_isKey cW_isKey 1 (some .boolean) 0 Γ [.int a] σ μ (some (.int (nI 0))) σ μ := by
  have h2 := mc_isKey l Γ σ μ a
  rw [wc_in_O h] at h2
  exact h2
set_option maxRecDepth 100000 in
set_option maxHeartbeats 4000000 in
theorem mc_isTx (l : Launch) (Γ : wc_G) (σ μ : wc_St) (a : Int32) : wc_M l yW_isTransaction cW_isTransaction 1 (some .boolean) 0 Γ [.int a] σ μ (some (.int (wc_in a 5))) (σ) μ := by
  refine wc_enter "WaitedCommits" (by decide) rfl (Nat.le_of_ble_eq_true rfl) ?_
  intro P0 E0 S0 M0 A0 B0 T0 K0 C hr hlk
  refine wr_vs (vs' := [(0, .int a)]) rfl ?_
  refine wr_iload_n C 0 dW_isTransaction_0 rfl rfl ?_
  refine wr_if_lt C (tgt := 13) dW_isTransaction_1 (by decide) (fun h1 => ?_) (fun h1 => ?_)
  ·
    refine wr_iconst C (v := nI 0) dW_isTransaction_13 (by decide) ?_
    exact wr_iret C hr rfl hlk dW_isTransaction_14 (by subst_vars; first | (simp [wc_in, wc_nIe, wc_nI0, wc_nIm, *]; done) | (simp_all [wc_in, wc_nIe, wc_nI0, wc_nIm]; done)) (by rfl) (by rfl)
  ·
    refine wr_iload_n C 0 dW_isTransaction_4 rfl rfl ?_
    refine wr_iconst C (v := nI 5) dW_isTransaction_5 (by decide) ?_
    refine wr_icmp_ge C (tgt := 13) dW_isTransaction_6 (by decide) (fun h2 => ?_) (fun h2 => ?_)
    ·
      refine wr_iconst C (v := nI 0) dW_isTransaction_13 (by decide) ?_
      exact wr_iret C hr rfl hlk dW_isTransaction_14 (by subst_vars; first | (simp [wc_in, wc_nIe, wc_nI0, wc_nIm, *]; done) | (simp_all [wc_in, wc_nIe, wc_nI0, wc_nIm]; done)) (by rfl) (by rfl)
    ·
      refine wr_iconst C (v := nI 1) dW_isTransaction_9 (by decide) ?_
      refine wr_goto C (tgt := 14) dW_isTransaction_10 (by decide) ?_
      exact wr_iret C hr rfl hlk dW_isTransaction_14 (by subst_vars; first | (simp [wc_in, wc_nIe, wc_nI0, wc_nIm, *]; done) | (simp_all [wc_in, wc_nIe, wc_nI0, wc_nIm]; done)) (by rfl) (by rfl)
theorem mc_isTxI (l : Launch) (Γ : wc_G) (σ μ : wc_St) {j : Nat} (hj : j < 5) : wc_M l yW_isTransaction cW_isTransaction 1 (some .boolean) 0 Γ [.int (nI j)] σ μ (some (.int (nI 1))) σ μ := by
  have h := mc_isTx l Γ σ μ (nI j)
  rw [wc_in_I hj (by decide)] at h
  exact h
theorem mc_isTxO (l : Launch) (Γ : wc_G) (σ μ : wc_St) (a : Int32) (h : a < 0 ∨ nI 5 ≤ a) : wc_M l yW_isTransaction cW_isTransaction 1 (some .boolean) 0 Γ [.int a] σ μ (some (.int (nI 0))) σ μ := by
  have h2 := mc_isTx l Γ σ μ a
  rw [wc_in_O h] at h2
  exact h2
set_option maxRecDepth 100000 in
set_option maxHeartbeats 4000000 in
theorem mc_siteOf (l : Launch) (Γ : wc_G) (σ μ : wc_St) {k : Nat} (hk : k < 9) : wc_M l yW_siteOf cW_siteOf 1 (some .int) 0 Γ [.int (nI k)] σ μ (some (.int (nI (k % 3)))) (σ) μ := by
  refine wc_enter "WaitedCommits" (by decide) rfl (Nat.le_of_ble_eq_true rfl) ?_
  intro P0 E0 S0 M0 A0 B0 T0 K0 C hr hlk
  refine wr_vs (vs' := [(0, .int (nI k))]) rfl ?_
  refine wr_iload_n C 0 dW_siteOf_0 rfl rfl ?_
  refine wr_iconst C (v := nI 3) dW_siteOf_1 (by decide) ?_
  refine wr_irem C (z := nI (k % 3)) dW_siteOf_2 (by decide) (pk_rem (by omega) (by omega) (by omega)) ?_
  exact wr_iret C hr rfl hlk dW_siteOf_3 (by rfl) (by rfl) (by rfl)
set_option maxRecDepth 100000 in
set_option maxHeartbeats 4000000 in
theorem mc_isError (l : Launch) (Γ : wc_G) (σ μ : wc_St) (a : Int32) : wc_M l yW_isError cW_isError 2 (some .boolean) 0 Γ [.ref (Γ.2.2 0), .int a] σ μ (some (.int (fc_isError σ a))) (σ) μ := by
  refine wc_enter "WaitedCommits" (by decide) rfl (Nat.le_of_ble_eq_true rfl) ?_
  intro P0 E0 S0 M0 A0 B0 T0 K0 C hr hlk
  refine wr_vs (vs' := [(0, .ref (Γ.2.2 0)), (1, .int a)]) rfl ?_
  refine wr_iload_n C 1 dW_isError_0 rfl rfl ?_
  refine wr_if_lt C (tgt := 16) dW_isError_1 (by decide) (fun h1 => ?_) (fun h1 => ?_)
  ·
    refine wr_iconst C (v := nI 0) dW_isError_16 (by decide) ?_
    exact wr_iret C hr rfl hlk dW_isError_17 (by subst_vars; first | (simp [fc_isError, wc_nIe, wc_nI0, wc_nIm, *]; done) | (simp_all [fc_isError, wc_nIe, wc_nI0, wc_nIm]; done)) (by rfl) (by rfl)
  ·
    refine wr_iload_n C 1 dW_isError_4 rfl rfl ?_
    refine wr_aload_n C 0 dW_isError_5 rfl rfl ?_
    refine wf_WC_greatestError C  (Or.inl tw_118) dW_isError_6 ?_
    refine wr_icmp_gt C (tgt := 16) dW_isError_9 (by decide) (fun h2 => ?_) (fun h2 => ?_)
    ·
      refine wr_iconst C (v := nI 0) dW_isError_16 (by decide) ?_
      exact wr_iret C hr rfl hlk dW_isError_17 (by subst_vars; first | (simp [fc_isError, wc_nIe, wc_nI0, wc_nIm, *]; done) | (simp_all [fc_isError, wc_nIe, wc_nI0, wc_nIm]; done)) (by rfl) (by rfl)
    ·
      refine wr_iconst C (v := nI 1) dW_isError_12 (by decide) ?_
      refine wr_goto C (tgt := 17) dW_isError_13 (by decide) ?_
      exact wr_iret C hr rfl hlk dW_isError_17 (by subst_vars; first | (simp [fc_isError, wc_nIe, wc_nI0, wc_nIm, *]; done) | (simp_all [fc_isError, wc_nIe, wc_nI0, wc_nIm]; done)) (by rfl) (by rfl)
set_option maxRecDepth 100000 in
set_option maxHeartbeats 4000000 in
theorem mc_latest (l : Launch) (Γ : wc_G) (σ μ : wc_St) {q : Nat} (hq : q < 3) : wc_M l yW_latest cW_latest 2 (some .int) 0 Γ [.ref (Γ.2.2 0), .int (nI q)] σ μ (some (.int (fc_latest σ q))) (σ) μ := by
  refine wc_enter "WaitedCommits" (by decide) rfl (Nat.le_of_ble_eq_true rfl) ?_
  intro P0 E0 S0 M0 A0 B0 T0 K0 C hr hlk
  refine wr_vs (vs' := [(0, .ref (Γ.2.2 0)), (1, .int (nI q))]) rfl ?_
  refine wr_aload_n C 0 dW_latest_0 rfl rfl ?_
  refine wf_WC_time C  (Or.inl tw_123) dW_latest_1 ?_
  refine wr_aload_n C 0 dW_latest_4 rfl rfl ?_
  refine wf_WC_sites C  (Or.inl tw_119) dW_latest_5 ?_
  refine wr_iload_n C 1 dW_latest_8 rfl rfl ?_
  refine wa_sites C (by omega) dW_latest_9 ?_
  refine wf_Site_after C (by omega) (Or.inr ⟨_, tw_34⟩) dW_latest_10 ?_
  refine wr_iadd C (z := (σ 23 0 0) + (σ 1 q 0)) dW_latest_13 rfl ?_
  exact wr_iret C hr rfl hlk dW_latest_14 (by rfl) (by rfl) (by rfl)
set_option maxRecDepth 100000 in
set_option maxHeartbeats 4000000 in
theorem mc_earliest (l : Launch) (Γ : wc_G) (σ μ : wc_St) {q : Nat} (hq : q < 3) : wc_M l yW_earliest cW_earliest 2 (some .int) 0 Γ [.ref (Γ.2.2 0), .int (nI q)] σ μ (some (.int (fc_earliest σ q))) (σ) μ := by
  refine wc_enter "WaitedCommits" (by decide) rfl (Nat.le_of_ble_eq_true rfl) ?_
  intro P0 E0 S0 M0 A0 B0 T0 K0 C hr hlk
  refine wr_vs (vs' := [(0, .ref (Γ.2.2 0)), (1, .int (nI q))]) rfl ?_
  refine wr_aload_n C 0 dW_earliest_0 rfl rfl ?_
  refine wf_WC_time C  (Or.inl tw_123) dW_earliest_1 ?_
  refine wr_aload_n C 0 dW_earliest_4 rfl rfl ?_
  refine wf_WC_sites C  (Or.inl tw_119) dW_earliest_5 ?_
  refine wr_iload_n C 1 dW_earliest_8 rfl rfl ?_
  refine wa_sites C (by omega) dW_earliest_9 ?_
  refine wf_Site_before C (by omega) (Or.inr ⟨_, tw_32⟩) dW_earliest_10 ?_
  refine wr_isub C (z := (σ 23 0 0) - (σ 0 q 0)) dW_earliest_13 rfl ?_
  exact wr_iret C hr rfl hlk dW_earliest_14 (by rfl) (by rfl) (by rfl)
set_option maxRecDepth 100000 in
set_option maxHeartbeats 4000000 in
theorem mc_canBegin (l : Launch) (Γ : wc_G) (σ μ : wc_St) {t : Nat} (ht : t < 5) : wc_M l yW_canBegin cW_canBegin 2 (some .boolean) 2 Γ [.ref (Γ.2.2 (35 + t))] σ μ (some (.int (fc_canBegin σ t))) (σ) μ := by
  refine wc_enter "WaitedCommits" (by decide) rfl (Nat.le_of_ble_eq_true rfl) ?_
  intro P0 E0 S0 M0 A0 B0 T0 K0 C hr hlk
  refine wr_vs (vs' := [(0, .ref (Γ.2.2 (35 + t)))]) rfl ?_
  refine wr_aload_n C 0 dW_canBegin_0 rfl rfl ?_
  refine wf_Tx_state C (by omega) (Or.inr ⟨_, tw_66⟩) dW_canBegin_1 ?_
  refine wr_iconst C (v := nI 4) dW_canBegin_4 (by decide) ?_
  refine wr_icmp_ne C (tgt := 20) dW_canBegin_5 (by decide) (fun h1 => ?_) (fun h1 => ?_)
  ·
    refine wr_iconst C (v := nI 0) dW_canBegin_20 (by decide) ?_
    refine wr_istore_n C (vs' := [(1, .int (nI 0)), (0, .ref (Γ.2.2 (35 + t)))]) dW_canBegin_21 rfl (by decide) rfl ?_
    refine wr_aload_n C 1 dW_canBegin_22 rfl rfl ?_
    refine wf_Tx_state C (by omega) (Or.inr ⟨_, tw_66⟩) dW_canBegin_23 ?_
    refine wr_if_eq C (tgt := 41) dW_canBegin_26 (by decide) (fun h2 => ?_) (fun h2 => ?_)
    ·
      refine wr_iconst C (v := nI 1) dW_canBegin_41 (by decide) ?_
      refine wr_goto C (tgt := 46) dW_canBegin_42 (by decide) ?_
      exact wr_iret C hr rfl hlk dW_canBegin_46 (by subst_vars; first | (simp [fc_canBegin, fc_over, wc_nIe, wc_nI0, wc_nIm, *]; done) | (simp_all [fc_canBegin, fc_over, wc_nIe, wc_nI0, wc_nIm]; done)) (by rfl) (by rfl)
    ·
      refine wr_aload_n C 1 dW_canBegin_29 rfl rfl ?_
      refine wf_Tx_state C (by omega) (Or.inr ⟨_, tw_66⟩) dW_canBegin_30 ?_
      refine wr_iconst C (v := nI 5) dW_canBegin_33 (by decide) ?_
      refine wr_icmp_eq C (tgt := 41) dW_canBegin_34 (by decide) (fun h3 => ?_) (fun h3 => ?_)
      ·
        refine wr_iconst C (v := nI 1) dW_canBegin_41 (by decide) ?_
        refine wr_goto C (tgt := 46) dW_canBegin_42 (by decide) ?_
        exact wr_iret C hr rfl hlk dW_canBegin_46 (by subst_vars; first | (simp [fc_canBegin, fc_over, wc_nIe, wc_nI0, wc_nIm, *]; done) | (simp_all [fc_canBegin, fc_over, wc_nIe, wc_nI0, wc_nIm]; done)) (by rfl) (by rfl)
      ·
        refine wr_iload_n C 0 dW_canBegin_37 rfl rfl ?_
        refine wr_if_eq C (tgt := 45) dW_canBegin_38 (by decide) (fun _ => ?_) (fun h4 => absurd (by decide) h4)
        refine wr_iconst C (v := nI 0) dW_canBegin_45 (by decide) ?_
        exact wr_iret C hr rfl hlk dW_canBegin_46 (by subst_vars; first | (simp [fc_canBegin, fc_over, wc_nIe, wc_nI0, wc_nIm, *]; done) | (simp_all [fc_canBegin, fc_over, wc_nIe, wc_nI0, wc_nIm]; done)) (by rfl) (by rfl)
  ·
    refine wr_aload_n C 0 dW_canBegin_8 rfl rfl ?_
    refine wr_callV1 C (As := []) (rest := []) (mc_least l Γ σ μ (t := t) (by omega)) cb_T_leastParticipant (Or.inr ⟨_, tw_164⟩) tw_165 tw_530 (by omega) (wc_c_Tx (by omega)) rfl (by decide) (by decide) rfl rfl (Nat.le_of_ble_eq_true rfl) ⟨Nat.le_refl _, Nat.le_refl _⟩ dW_canBegin_9 ?_
    refine wr_iconst C (v := -1) dW_canBegin_12 (by decide) ?_
    refine wr_icmp_ne C (tgt := 20) dW_canBegin_13 (by decide) (fun h5 => ?_) (fun h5 => ?_)
    ·
      refine wr_iconst C (v := nI 0) dW_canBegin_20 (by decide) ?_
      refine wr_istore_n C (vs' := [(1, .int (nI 0)), (0, .ref (Γ.2.2 (35 + t)))]) dW_canBegin_21 rfl (by decide) rfl ?_
      refine wr_aload_n C 1 dW_canBegin_22 rfl rfl ?_
      refine wf_Tx_state C (by omega) (Or.inr ⟨_, tw_66⟩) dW_canBegin_23 ?_
      refine wr_if_eq C (tgt := 41) dW_canBegin_26 (by decide) (fun h6 => ?_) (fun h6 => ?_)
      ·
        refine wr_iconst C (v := nI 1) dW_canBegin_41 (by decide) ?_
        refine wr_goto C (tgt := 46) dW_canBegin_42 (by decide) ?_
        exact wr_iret C hr rfl hlk dW_canBegin_46 (by subst_vars; first | (simp [fc_canBegin, fc_over, wc_nIe, wc_nI0, wc_nIm, *]; done) | (simp_all [fc_canBegin, fc_over, wc_nIe, wc_nI0, wc_nIm]; done)) (by rfl) (by rfl)
      ·
        refine wr_aload_n C 1 dW_canBegin_29 rfl rfl ?_
        refine wf_Tx_state C (by omega) (Or.inr ⟨_, tw_66⟩) dW_canBegin_30 ?_
        refine wr_iconst C (v := nI 5) dW_canBegin_33 (by decide) ?_
        refine wr_icmp_eq C (tgt := 41) dW_canBegin_34 (by decide) (fun h7 => ?_) (fun h7 => ?_)
        ·
          refine wr_iconst C (v := nI 1) dW_canBegin_41 (by decide) ?_
          refine wr_goto C (tgt := 46) dW_canBegin_42 (by decide) ?_
          exact wr_iret C hr rfl hlk dW_canBegin_46 (by subst_vars; first | (simp [fc_canBegin, fc_over, wc_nIe, wc_nI0, wc_nIm, *]; done) | (simp_all [fc_canBegin, fc_over, wc_nIe, wc_nI0, wc_nIm]; done)) (by rfl) (by rfl)
        ·
          refine wr_iload_n C 0 dW_canBegin_37 rfl rfl ?_
          refine wr_if_eq C (tgt := 45) dW_canBegin_38 (by decide) (fun _ => ?_) (fun h8 => absurd (by decide) h8)
          refine wr_iconst C (v := nI 0) dW_canBegin_45 (by decide) ?_
          exact wr_iret C hr rfl hlk dW_canBegin_46 (by subst_vars; first | (simp [fc_canBegin, fc_over, wc_nIe, wc_nI0, wc_nIm, *]; done) | (simp_all [fc_canBegin, fc_over, wc_nIe, wc_nI0, wc_nIm]; done)) (by rfl) (by rfl)
    ·
      refine wr_iconst C (v := nI 1) dW_canBegin_16 (by decide) ?_
      refine wr_goto C (tgt := 21) dW_canBegin_17 (by decide) ?_
      refine wr_istore_n C (vs' := [(1, .int (nI 1)), (0, .ref (Γ.2.2 (35 + t)))]) dW_canBegin_21 rfl (by decide) rfl ?_
      refine wr_aload_n C 1 dW_canBegin_22 rfl rfl ?_
      refine wf_Tx_state C (by omega) (Or.inr ⟨_, tw_66⟩) dW_canBegin_23 ?_
      refine wr_if_eq C (tgt := 41) dW_canBegin_26 (by decide) (fun h9 => ?_) (fun h9 => ?_)
      ·
        refine wr_iconst C (v := nI 1) dW_canBegin_41 (by decide) ?_
        refine wr_goto C (tgt := 46) dW_canBegin_42 (by decide) ?_
        exact wr_iret C hr rfl hlk dW_canBegin_46 (by subst_vars; first | (simp [fc_canBegin, fc_over, wc_nIe, wc_nI0, wc_nIm, *]; done) | (simp_all [fc_canBegin, fc_over, wc_nIe, wc_nI0, wc_nIm]; done)) (by rfl) (by rfl)
      ·
        refine wr_aload_n C 1 dW_canBegin_29 rfl rfl ?_
        refine wf_Tx_state C (by omega) (Or.inr ⟨_, tw_66⟩) dW_canBegin_30 ?_
        refine wr_iconst C (v := nI 5) dW_canBegin_33 (by decide) ?_
        refine wr_icmp_eq C (tgt := 41) dW_canBegin_34 (by decide) (fun h10 => ?_) (fun h10 => ?_)
        ·
          refine wr_iconst C (v := nI 1) dW_canBegin_41 (by decide) ?_
          refine wr_goto C (tgt := 46) dW_canBegin_42 (by decide) ?_
          exact wr_iret C hr rfl hlk dW_canBegin_46 (by subst_vars; first | (simp [fc_canBegin, fc_over, wc_nIe, wc_nI0, wc_nIm, *]; done) | (simp_all [fc_canBegin, fc_over, wc_nIe, wc_nI0, wc_nIm]; done)) (by rfl) (by rfl)
        ·
          refine wr_iload_n C 0 dW_canBegin_37 rfl rfl ?_
          refine wr_if_eq C (tgt := 45) dW_canBegin_38 (by decide) (fun h11 => absurd h11 (by decide)) (fun _ => ?_)
          refine wr_iconst C (v := nI 1) dW_canBegin_41 (by decide) ?_
          refine wr_goto C (tgt := 46) dW_canBegin_42 (by decide) ?_
          exact wr_iret C hr rfl hlk dW_canBegin_46 (by subst_vars; first | (simp [fc_canBegin, fc_over, wc_nIe, wc_nI0, wc_nIm, *]; done) | (simp_all [fc_canBegin, fc_over, wc_nIe, wc_nI0, wc_nIm]; done)) (by rfl) (by rfl)
set_option maxRecDepth 100000 in
set_option maxHeartbeats 4000000 in
theorem mc_conflicts (l : Launch) (Γ : wc_G) (σ μ : wc_St) {o t k : Nat} (ho : o < 5) (ht : t < 5) (hk : k < 9) (kind : Int32) : wc_M l yW_conflicts cW_conflicts 4 (some .boolean) 0 Γ [.ref (Γ.2.2 (35 + o)), .ref (Γ.2.2 (35 + t)), .int (nI k), .int kind] σ μ (some (.int (fc_conf σ o t k kind))) (σ) μ := by
  refine wc_enter "WaitedCommits" (by decide) rfl (Nat.le_of_ble_eq_true rfl) ?_
  intro P0 E0 S0 M0 A0 B0 T0 K0 C hr hlk
  refine wr_vs (vs' := [(0, .ref (Γ.2.2 (35 + o))), (1, .ref (Γ.2.2 (35 + t))), (2, .int (nI k)), (3, .int kind)]) rfl ?_
  refine wr_aload_n C 0 dW_conflicts_0 rfl rfl ?_
  refine wr_aload_n C 1 dW_conflicts_1 rfl rfl ?_
  refine wr_acmpI_eq C (tgt := 14) (by omega) (by omega) dW_conflicts_2 (by decide) (fun h1 => ?_) (fun h1 => ?_)
  ·
    refine wr_iconst C (v := nI 0) dW_conflicts_14 (by decide) ?_
    exact wr_iret C hr rfl hlk dW_conflicts_15 (by have hot : (35 + o = 35 + t) ↔ o = t := ⟨fun h => by omega, fun h => by rw [h]⟩; simp only [hot] at *; simp [fc_conf, wc_nIe, wc_nI0, *]) (by rfl) (by rfl)
  ·
    refine wr_aload_n C 0 dW_conflicts_5 rfl rfl ?_
    refine wf_Tx_locks C (by omega) (Or.inr ⟨_, tw_80⟩) dW_conflicts_6 ?_
    refine wr_iload_n C 2 dW_conflicts_9 rfl rfl ?_
    refine wa_locks C (by omega) (by omega) dW_conflicts_10 ?_
    refine wr_if_ne C (tgt := 16) dW_conflicts_11 (by decide) (fun h2 => ?_) (fun h2 => ?_)
    ·
      refine wr_iload_n C 3 dW_conflicts_16 rfl rfl ?_
      refine wr_iconst C (v := nI 2) dW_conflicts_17 (by decide) ?_
      refine wr_icmp_eq C (tgt := 31) dW_conflicts_18 (by decide) (fun h3 => ?_) (fun h3 => ?_)
      ·
        refine wr_iconst C (v := nI 1) dW_conflicts_31 (by decide) ?_
        refine wr_goto C (tgt := 36) dW_conflicts_32 (by decide) ?_
        exact wr_iret C hr rfl hlk dW_conflicts_36 (by have hot : (35 + o = 35 + t) ↔ o = t := ⟨fun h => by omega, fun h => by rw [h]⟩; simp only [hot] at *; simp [fc_conf, wc_nIe, wc_nI0, *]) (by rfl) (by rfl)
      ·
        refine wr_aload_n C 0 dW_conflicts_21 rfl rfl ?_
        refine wf_Tx_locks C (by omega) (Or.inr ⟨_, tw_80⟩) dW_conflicts_22 ?_
        refine wr_iload_n C 2 dW_conflicts_25 rfl rfl ?_
        refine wa_locks C (by omega) (by omega) dW_conflicts_26 ?_
        refine wr_iconst C (v := nI 2) dW_conflicts_27 (by decide) ?_
        refine wr_icmp_ne C (tgt := 35) dW_conflicts_28 (by decide) (fun h4 => ?_) (fun h4 => ?_)
        ·
          refine wr_iconst C (v := nI 0) dW_conflicts_35 (by decide) ?_
          exact wr_iret C hr rfl hlk dW_conflicts_36 (by have hot : (35 + o = 35 + t) ↔ o = t := ⟨fun h => by omega, fun h => by rw [h]⟩; simp only [hot] at *; simp [fc_conf, wc_nIe, wc_nI0, *]) (by rfl) (by rfl)
        ·
          refine wr_iconst C (v := nI 1) dW_conflicts_31 (by decide) ?_
          refine wr_goto C (tgt := 36) dW_conflicts_32 (by decide) ?_
          exact wr_iret C hr rfl hlk dW_conflicts_36 (by have hot : (35 + o = 35 + t) ↔ o = t := ⟨fun h => by omega, fun h => by rw [h]⟩; simp only [hot] at *; simp [fc_conf, wc_nIe, wc_nI0, *]) (by rfl) (by rfl)
    ·
      refine wr_iconst C (v := nI 0) dW_conflicts_14 (by decide) ?_
      exact wr_iret C hr rfl hlk dW_conflicts_15 (by have hot : (35 + o = 35 + t) ↔ o = t := ⟨fun h => by omega, fun h => by rw [h]⟩; simp only [hot] at *; simp [fc_conf, wc_nIe, wc_nI0, *]) (by rfl) (by rfl)
set_option maxRecDepth 100000 in
set_option maxHeartbeats 4000000 in
theorem mc_push (l : Launch) (Γ : wc_G) (σ μ : wc_St) {t o : Nat} (ht : t < 5) (ho : o < 5) : wc_M l yW_canPushAside cW_canPushAside 2 (some .boolean) 0 Γ [.ref (Γ.2.2 (35 + t)), .ref (Γ.2.2 (35 + o))] σ μ (some (.int (fc_push σ t o))) (σ) μ := by
  refine wc_enter "WaitedCommits" (by decide) rfl (Nat.le_of_ble_eq_true rfl) ?_
  intro P0 E0 S0 M0 A0 B0 T0 K0 C hr hlk
  refine wr_vs (vs' := [(0, .ref (Γ.2.2 (35 + t))), (1, .ref (Γ.2.2 (35 + o)))]) rfl ?_
  refine wr_aload_n C 1 dW_canPushAside_0 rfl rfl ?_
  refine wf_Tx_state C (by omega) (Or.inr ⟨_, tw_66⟩) dW_canPushAside_1 ?_
  refine wr_iconst C (v := nI 1) dW_canPushAside_4 (by decide) ?_
  refine wr_icmp_ne C (tgt := 23) dW_canPushAside_5 (by decide) (fun h1 => ?_) (fun h1 => ?_)
  ·
    refine wr_iconst C (v := nI 0) dW_canPushAside_23 (by decide) ?_
    exact wr_iret C hr rfl hlk dW_canPushAside_24 (by subst_vars; first | (simp [fc_push, wc_nIe, wc_nI0, wc_nIm, *]; done) | (simp_all [fc_push, wc_nIe, wc_nI0, wc_nIm]; done)) (by rfl) (by rfl)
  ·
    refine wr_aload_n C 1 dW_canPushAside_8 rfl rfl ?_
    refine wf_Tx_birth C (by omega) (Or.inr ⟨_, tw_68⟩) dW_canPushAside_9 ?_
    refine wr_aload_n C 0 dW_canPushAside_12 rfl rfl ?_
    refine wf_Tx_birth C (by omega) (Or.inr ⟨_, tw_68⟩) dW_canPushAside_13 ?_
    refine wr_icmp_le C (tgt := 23) dW_canPushAside_16 (by decide) (fun h2 => ?_) (fun h2 => ?_)
    ·
      refine wr_iconst C (v := nI 0) dW_canPushAside_23 (by decide) ?_
      exact wr_iret C hr rfl hlk dW_canPushAside_24 (by subst_vars; first | (simp [fc_push, wc_nIe, wc_nI0, wc_nIm, *]; done) | (simp_all [fc_push, wc_nIe, wc_nI0, wc_nIm]; done)) (by rfl) (by rfl)
    ·
      refine wr_iconst C (v := nI 1) dW_canPushAside_19 (by decide) ?_
      refine wr_goto C (tgt := 24) dW_canPushAside_20 (by decide) ?_
      exact wr_iret C hr rfl hlk dW_canPushAside_24 (by subst_vars; first | (simp [fc_push, wc_nIe, wc_nI0, wc_nIm, *]; done) | (simp_all [fc_push, wc_nIe, wc_nI0, wc_nIm]; done)) (by rfl) (by rfl)
set_option maxRecDepth 100000 in
set_option maxHeartbeats 4000000 in
theorem mc_isActiveI (l : Launch) (Γ : wc_G) (σ μ : wc_St) {t : Nat} (ht : t < 5) : wc_M l yW_isActive cW_isActive 2 (some .boolean) 1 Γ [.ref (Γ.2.2 0), .int (nI t)] σ μ (some (.int (fc_active σ t))) (σ) μ := by
  refine wc_enter "WaitedCommits" (by decide) rfl (Nat.le_of_ble_eq_true rfl) ?_
  intro P0 E0 S0 M0 A0 B0 T0 K0 C hr hlk
  refine wr_vs (vs' := [(0, .ref (Γ.2.2 0)), (1, .int (nI t))]) rfl ?_
  refine wr_iload_n C 1 dW_isActive_0 rfl rfl ?_
  refine wr_callS1 C (As := [.int (nI t)]) (rest := []) (mc_isTxI l Γ σ μ (j := t) (by omega)) cb_W_isTransaction (Or.inl tw_158) tw_159 (by decide) (by decide) rfl rfl (Nat.le_of_ble_eq_true rfl) ⟨Nat.le_refl _, Nat.le_refl _⟩ dW_isActive_1 ?_
  refine wr_if_eq C (tgt := 24) dW_isActive_4 (by decide) (fun h1 => absurd h1 (by decide)) (fun _ => ?_)
  refine wr_aload_n C 0 dW_isActive_7 rfl rfl ?_
  refine wf_WC_transactions C  (Or.inl tw_121) dW_isActive_8 ?_
  refine wr_iload_n C 1 dW_isActive_11 rfl rfl ?_
  refine wa_txs C (by omega) dW_isActive_12 ?_
  refine wf_Tx_state C (by omega) (Or.inr ⟨_, tw_66⟩) dW_isActive_13 ?_
  refine wr_iconst C (v := nI 1) dW_isActive_16 (by decide) ?_
  refine wr_icmp_ne C (tgt := 24) dW_isActive_17 (by decide) (fun h2 => ?_) (fun h2 => ?_)
  ·
    refine wr_iconst C (v := nI 0) dW_isActive_24 (by decide) ?_
    exact wr_iret C hr rfl hlk dW_isActive_25 (by subst_vars; first | (simp [fc_active, wc_nIe, wc_nI0, wc_nIm, *]; done) | (simp_all [fc_active, wc_nIe, wc_nI0, wc_nIm]; done)) (by rfl) (by rfl)
  ·
    refine wr_iconst C (v := nI 1) dW_isActive_20 (by decide) ?_
    refine wr_goto C (tgt := 25) dW_isActive_21 (by decide) ?_
    exact wr_iret C hr rfl hlk dW_isActive_25 (by subst_vars; first | (simp [fc_active, wc_nIe, wc_nI0, wc_nIm, *]; done) | (simp_all [fc_active, wc_nIe, wc_nI0, wc_nIm]; done)) (by rfl) (by rfl)
set_option maxRecDepth 100000 in
set_option maxHeartbeats 4000000 in
theorem mc_isActiveO (l : Launch) (Γ : wc_G) (σ μ : wc_St) (a : Int32) (ha : a < 0 ∨ nI 5 ≤ a) : wc_M l yW_isActive cW_isActive 2 (some .boolean) 1 Γ [.ref (Γ.2.2 0), .int a] σ μ (some (.int (nI 0))) (σ) μ := by
  refine wc_enter "WaitedCommits" (by decide) rfl (Nat.le_of_ble_eq_true rfl) ?_
  intro P0 E0 S0 M0 A0 B0 T0 K0 C hr hlk
  refine wr_vs (vs' := [(0, .ref (Γ.2.2 0)), (1, .int a)]) rfl ?_
  refine wr_iload_n C 1 dW_isActive_0 rfl rfl ?_
  refine wr_callS1 C (As := [.int a]) (rest := []) (mc_isTxO l Γ σ μ a ha) cb_W_isTransaction (Or.inl tw_158) tw_159 (by decide) (by decide) rfl rfl (Nat.le_of_ble_eq_true rfl) ⟨Nat.le_refl _, Nat.le_refl _⟩ dW_isActive_1 ?_
  refine wr_if_eq C (tgt := 24) dW_isActive_4 (by decide) (fun _ => ?_) (fun h1 => absurd (by decide) h1)
  refine wr_iconst C (v := nI 0) dW_isActive_24 (by decide) ?_
  exact wr_iret C hr rfl hlk dW_isActive_25 (by rfl) (by rfl) (by rfl)
end
section
set_option maxRecDepth 100000 in
set_option maxHeartbeats 4000000 in
theorem ml_leastMark {P0 : Program} {l : Launch} {E0 : Env} {S0 : State} {M0 : MethodId} {A0 : Array Value} {B0 : List Frame} {T0 : Method} {K0 : Code} {Γ : wc_G} {A : Nat → Prop} {v : Option Value} {σ' μ' : wc_St} (C : wc_C P0 S0 M0 A0 K0 cW_leastMark 4 "WaitedCommits" Γ A) (hr : T0.sig.returnType = (some .int)) (hlk : T0.locks = false) {q : Nat} (hq : q < 3) (σ μ : wc_St) (hσ : σ = σ') (hμ : μ = μ') : ∀ (n : Nat) (i : Nat) (a : Int32), i + n = 5 → some (.int (fc_lm σ q n i a)) = v → wc_K P0 l E0 (wc_rm 1) S0 M0 A0 B0 T0 K0 4 Γ A (MQ B0 (wc_Qw Γ A v σ' μ') A0 S0 0 0 A) 0 0 5 [(3, .int (nI i)), (2, .int a), (0, .ref (Γ.2.2 0)), (1, .int (nI q))] [] σ μ := by
  subst hσ; subst hμ
  intro n
  induction n with
  | zero =>
    intro i a hi hv
    obtain rfl : i = 5 := by omega
    refine wr_iload_n C 0 dW_leastMark_5 rfl rfl ?_
    refine wr_iconst C (v := nI 5) dW_leastMark_6 (by decide) ?_
    refine wr_icmp_ge C (tgt := 46) dW_leastMark_7 (by decide) (fun _ => ?_) (fun h1 => absurd (by decide) h1)
    refine wr_iload_n C 1 dW_leastMark_46 rfl rfl ?_
    exact wr_iret C hr rfl hlk dW_leastMark_47 (by exact hv) (by rfl) (by rfl)
  | succ n ih =>
    intro i a hi hv
    refine wr_iload_n C 0 dW_leastMark_5 rfl rfl ?_
    refine wr_iconst C (v := nI 5) dW_leastMark_6 (by decide) ?_
    refine wr_icmp_ge C (tgt := 46) dW_leastMark_7 (by decide) (fun h1 => absurd h1 (wc_noge (by omega) (by omega) (by omega))) (fun _ => ?_)
    refine wr_aload_n C 2 dW_leastMark_10 rfl rfl ?_
    refine wf_WC_transactions C  (Or.inl tw_121) dW_leastMark_11 ?_
    refine wr_iload_n C 0 dW_leastMark_14 rfl rfl ?_
    refine wa_txs C (by omega) dW_leastMark_15 ?_
    refine wf_Tx_marks C (by omega) (Or.inr ⟨_, tw_84⟩) dW_leastMark_16 ?_
    refine wr_iload_n C 3 dW_leastMark_19 rfl rfl ?_
    refine wa_marks C (by omega) (by omega) dW_leastMark_20 ?_
    refine wr_if_eq C (tgt := 40) dW_leastMark_21 (by decide) (fun h2 => ?_) (fun h2 => ?_)
    ·
      refine wr_iinc C (v := nI (i + 1)) (vs' := [(3, .int (nI (i + 1))), (2, .int a), (0, .ref (Γ.2.2 0)), (1, .int (nI q))]) 0 dW_leastMark_40 rfl (wc_inc1 i) (by decide) rfl ?_
      refine wr_goto C (tgt := 5) dW_leastMark_43 (by decide) ?_
      exact ih (i + 1) (a) (by omega) (by rw [← hv]; simp [fc_lm, *])
    ·
      refine wr_iload_n C 1 dW_leastMark_24 rfl rfl ?_
      refine wr_aload_n C 2 dW_leastMark_25 rfl rfl ?_
      refine wf_WC_transactions C  (Or.inl tw_121) dW_leastMark_26 ?_
      refine wr_iload_n C 0 dW_leastMark_29 rfl rfl ?_
      refine wa_txs C (by omega) dW_leastMark_30 ?_
      refine wf_Tx_marks C (by omega) (Or.inr ⟨_, tw_84⟩) dW_leastMark_31 ?_
      refine wr_iload_n C 3 dW_leastMark_34 rfl rfl ?_
      refine wa_marks C (by omega) (by omega) dW_leastMark_35 ?_
      refine wr_mmin C tw_20 tw_21 tw_2 tw_22 (by decide) (by decide) (Nat.le_of_ble_eq_true rfl) ⟨Nat.le_refl _, Nat.le_refl _⟩ dW_leastMark_36 ?_
      refine wr_istore_n C (vs' := [(2, .int (wc_mn a (σ 17 i q))), (3, .int (nI i)), (0, .ref (Γ.2.2 0)), (1, .int (nI q))]) dW_leastMark_39 rfl (by decide) rfl ?_
      refine wr_iinc C (v := nI (i + 1)) (vs' := [(3, .int (nI (i + 1))), (2, .int (wc_mn a (σ 17 i q))), (0, .ref (Γ.2.2 0)), (1, .int (nI q))]) 1 dW_leastMark_40 rfl (wc_inc1 i) (by decide) rfl ?_
      refine wr_goto C (tgt := 5) dW_leastMark_43 (by decide) ?_
      exact ih (i + 1) (wc_mn a (σ 17 i q)) (by omega) (by rw [← hv]; simp [fc_lm, *])
set_option maxRecDepth 100000 in
set_option maxHeartbeats 4000000 in
theorem mc_leastMark (l : Launch) (Γ : wc_G) (σ μ : wc_St) {q : Nat} (hq : q < 3) : wc_M l yW_leastMark cW_leastMark 4 (some .int) 1 Γ [.ref (Γ.2.2 0), .int (nI q)] σ μ (some (.int (fc_leastMark σ q))) (σ) μ := by
  refine wc_enter "WaitedCommits" (by decide) rfl (Nat.le_of_ble_eq_true rfl) ?_
  intro P0 E0 S0 M0 A0 B0 T0 K0 C hr hlk
  refine wr_vs (vs' := [(0, .ref (Γ.2.2 0)), (1, .int (nI q))]) rfl ?_
  refine wr_ldc C dW_leastMark_0 tw_241 ?_
  refine wr_istore_n C (vs' := [(2, .int 2147483647), (0, .ref (Γ.2.2 0)), (1, .int (nI q))]) dW_leastMark_2 rfl (by decide) rfl ?_
  refine wr_iconst C (v := nI 0) dW_leastMark_3 (by decide) ?_
  refine wr_istore_n C (vs' := [(3, .int (nI 0)), (2, .int 2147483647), (0, .ref (Γ.2.2 0)), (1, .int (nI q))]) dW_leastMark_4 rfl (by decide) rfl ?_
  refine wr_sub [0, 1, 2, 3] rfl ?_
  exact ml_leastMark C hr hlk hq σ μ rfl rfl 5 0 2147483647 rfl rfl
set_option maxRecDepth 100000 in
set_option maxHeartbeats 4000000 in
theorem mc_ready (l : Launch) (Γ : wc_G) (σ μ : wc_St) {q : Nat} (hq : q < 3) : wc_M l yW_greatestReadyTime cW_greatestReadyTime 2 (some .int) 2 Γ [.ref (Γ.2.2 0), .int (nI q)] σ μ (some (.int (fc_ready σ q))) (σ) μ := by
  refine wc_enter "WaitedCommits" (by decide) rfl (Nat.le_of_ble_eq_true rfl) ?_
  intro P0 E0 S0 M0 A0 B0 T0 K0 C hr hlk
  refine wr_vs (vs' := [(0, .ref (Γ.2.2 0)), (1, .int (nI q))]) rfl ?_
  refine wr_aload_n C 0 dW_greatestReadyTime_0 rfl rfl ?_
  refine wr_iload_n C 1 dW_greatestReadyTime_1 rfl rfl ?_
  refine wr_callV1 C (As := [.int (nI q)]) (rest := []) (mc_latest l Γ σ μ (q := q) (by omega)) cb_W_latest (Or.inl tw_210) tw_211 tw_537 (by omega) (wc_c_WC) rfl (by decide) (by decide) rfl rfl (Nat.le_of_ble_eq_true rfl) ⟨Nat.le_refl _, Nat.le_refl _⟩ dW_greatestReadyTime_2 ?_
  refine wr_aload_n C 0 dW_greatestReadyTime_5 rfl rfl ?_
  refine wr_iload_n C 1 dW_greatestReadyTime_6 rfl rfl ?_
  refine wr_callV1 C (As := [.int (nI q)]) (rest := [.int (fc_latest σ q)]) (mc_leastMark l Γ σ μ (q := q) (by omega)) cb_W_leastMark (Or.inl tw_238) tw_239 tw_543 (by omega) (wc_c_WC) rfl (by decide) (by decide) rfl rfl (Nat.le_of_ble_eq_true rfl) ⟨Nat.le_refl _, Nat.le_refl _⟩ dW_greatestReadyTime_7 ?_
  refine wr_iconst C (v := nI 1) dW_greatestReadyTime_10 (by decide) ?_
  refine wr_isub C (z := (fc_leastMark σ q) - (nI 1)) dW_greatestReadyTime_11 rfl ?_
  refine wr_mmin C tw_20 tw_21 tw_2 tw_22 (by decide) (by decide) (Nat.le_of_ble_eq_true rfl) ⟨Nat.le_refl _, Nat.le_refl _⟩ dW_greatestReadyTime_12 ?_
  exact wr_iret C hr rfl hlk dW_greatestReadyTime_15 (by rfl) (by rfl) (by rfl)
set_option maxRecDepth 100000 in
set_option maxHeartbeats 4000000 in
theorem ml_valueAt {P0 : Program} {l : Launch} {E0 : Env} {S0 : State} {M0 : MethodId} {A0 : Array Value} {B0 : List Frame} {T0 : Method} {K0 : Code} {Γ : wc_G} {A : Nat → Prop} {v : Option Value} {σ' μ' : wc_St} (C : wc_C P0 S0 M0 A0 K0 cK_valueAt 3 "WaitedCommits$Key" Γ A) (hr : T0.sig.returnType = (some .long)) (hlk : T0.locks = false) {k : Nat} (hk : k < 9) (r : Int32) (σ μ : wc_St) (hσ : σ = σ') (hμ : μ = μ') (hcnt : σ 5 k 0 ≤ nI 4) : ∀ (n : Nat) (i : Nat), i + n = 4 → some (.long (fc_vat σ k r n i)) = v → wc_K P0 l E0 (wc_rm 0) S0 M0 A0 B0 T0 K0 3 Γ A (MQ B0 (wc_Qw Γ A v σ' μ') A0 S0 0 0 A) 0 0 2 [(2, .int (nI i)), (0, .ref (Γ.2.2 (8 + k))), (1, .int r)] [] σ μ := by
  subst hσ; subst hμ
  intro n
  induction n with
  | zero =>
    intro i hi hv
    obtain rfl : i = 4 := by omega
    refine wr_iload_n C 0 dK_valueAt_2 rfl rfl ?_
    refine wr_aload_n C 1 dK_valueAt_3 rfl rfl ?_
    refine wf_Key_count C (by omega) (Or.inl tw_55) dK_valueAt_4 ?_
    refine wr_icmp_ge C (tgt := 34) dK_valueAt_7 (by decide) (fun h1 => ?_) (fun h1 => ?_)
    ·
      refine wr_ldc2 C dK_valueAt_34 tw_249 ?_
      exact wr_lret C hr hlk dK_valueAt_37 (by rw [← hv]; simp [fc_vat, *]) (by rfl) (by rfl)
    ·
      exact absurd hcnt h1
  | succ n ih =>
    intro i hi hv
    refine wr_iload_n C 0 dK_valueAt_2 rfl rfl ?_
    refine wr_aload_n C 1 dK_valueAt_3 rfl rfl ?_
    refine wf_Key_count C (by omega) (Or.inl tw_55) dK_valueAt_4 ?_
    refine wr_icmp_ge C (tgt := 34) dK_valueAt_7 (by decide) (fun h1 => ?_) (fun h1 => ?_)
    ·
      refine wr_ldc2 C dK_valueAt_34 tw_249 ?_
      exact wr_lret C hr hlk dK_valueAt_37 (by rw [← hv]; simp [fc_vat, *]) (by rfl) (by rfl)
    ·
      refine wr_aload_n C 1 dK_valueAt_10 rfl rfl ?_
      refine wf_Key_stamps C (by omega) (Or.inl tw_53) dK_valueAt_11 ?_
      refine wr_iload_n C 0 dK_valueAt_14 rfl rfl ?_
      refine wa_stamps C (by omega) (by omega) dK_valueAt_15 ?_
      refine wr_iload_n C 2 dK_valueAt_16 rfl rfl ?_
      refine wr_icmp_gt C (tgt := 28) dK_valueAt_17 (by decide) (fun h2 => ?_) (fun h2 => ?_)
      ·
        refine wr_iinc C (v := nI (i + 1)) (vs' := [(2, .int (nI (i + 1))), (0, .ref (Γ.2.2 (8 + k))), (1, .int r)]) 0 dK_valueAt_28 rfl (wc_inc1 i) (by decide) rfl ?_
        refine wr_goto C (tgt := 2) dK_valueAt_31 (by decide) ?_
        refine wr_sub [0, 1, 2] rfl ?_
        exact ih (i + 1) (by omega) (by rw [← hv]; simp [fc_vat, *])
      ·
        refine wr_aload_n C 1 dK_valueAt_20 rfl rfl ?_
        refine wf_Key_values C (by omega) (Or.inl tw_51) dK_valueAt_21 ?_
        refine wr_iload_n C 0 dK_valueAt_24 rfl rfl ?_
        refine wa_values C (by omega) (by omega) dK_valueAt_25 ?_
        refine wr_i2l C dK_valueAt_26 ?_
        exact wr_lret C hr hlk dK_valueAt_27 (by rw [← hv]; simp [fc_vat, *]) (by rfl) (by rfl)
set_option maxRecDepth 100000 in
set_option maxHeartbeats 4000000 in
theorem mc_valueAt (l : Launch) (Γ : wc_G) (σ μ : wc_St) {k : Nat} (hk : k < 9) (r : Int32) (hcnt : σ 5 k 0 ≤ nI 4) : wc_M l yK_valueAt cK_valueAt 3 (some .long) 0 Γ [.ref (Γ.2.2 (8 + k)), .int r] σ μ (some (.long (fc_vat σ k r 4 0))) (σ) μ := by
  refine wc_enter "WaitedCommits$Key" (by decide) rfl (Nat.le_of_ble_eq_true rfl) ?_
  intro P0 E0 S0 M0 A0 B0 T0 K0 C hr hlk
  refine wr_vs (vs' := [(0, .ref (Γ.2.2 (8 + k))), (1, .int r)]) rfl ?_
  refine wr_iconst C (v := nI 0) dK_valueAt_0 (by decide) ?_
  refine wr_istore_n C (vs' := [(2, .int (nI 0)), (0, .ref (Γ.2.2 (8 + k))), (1, .int r)]) dK_valueAt_1 rfl (by decide) rfl ?_
  refine wr_sub [0, 1, 2] rfl ?_
  exact ml_valueAt C hr hlk hk r σ μ rfl rfl hcnt 4 0 rfl rfl
set_option maxRecDepth 100000 in
set_option maxHeartbeats 4000000 in
theorem ml_lock1 {P0 : Program} {l : Launch} {E0 : Env} {S0 : State} {M0 : MethodId} {A0 : Array Value} {B0 : List Frame} {T0 : Method} {K0 : Code} {Γ : wc_G} {A : Nat → Prop} {v : Option Value} {σ' μ' : wc_St} (C : wc_C P0 S0 M0 A0 K0 cW_lock 5 "WaitedCommits" Γ A) (hr : T0.sig.returnType = (some .boolean)) (hlk : T0.locks = false) {t k : Nat} (ht : t < 5) (hk : k < 9) (kind : Int32) (σ μ : wc_St) (b : Bool) (hx : b = false → wc_K P0 l E0 (wc_rm 2) S0 M0 A0 B0 T0 K0 5 Γ A (MQ B0 (wc_Qw Γ A v σ' μ') A0 S0 0 0 A) 0 0 76 [(4, .int (nI 5)), (0, .ref (Γ.2.2 0)), (1, .ref (Γ.2.2 (35 + t))), (2, .int (nI k)), (3, .int kind)] [] σ μ) (hb : b = true → some (.int (nI 0)) = v ∧ σ = σ' ∧ μ = μ') : ∀ (n : Nat) (i : Nat), i + n = 5 → fc_blk σ t k kind n i = b → wc_K P0 l E0 (wc_rm 2) S0 M0 A0 B0 T0 K0 5 Γ A (MQ B0 (wc_Qw Γ A v σ' μ') A0 S0 0 0 A) 0 0 32 [(4, .int (nI i)), (0, .ref (Γ.2.2 0)), (1, .ref (Γ.2.2 (35 + t))), (2, .int (nI k)), (3, .int kind)] [] σ μ := by
  intro n
  induction n with
  | zero =>
    intro i hi hv
    obtain rfl : i = 5 := by omega
    refine wr_iload C 0 dW_lock_32 rfl ?_
    refine wr_iconst C (v := nI 5) dW_lock_34 (by decide) ?_
    refine wr_icmp_ge C (tgt := 76) dW_lock_35 (by decide) (fun _ => ?_) (fun h1 => absurd (by decide) h1)
    exact hx (by rw [← hv]; rfl)
  | succ n ih =>
    intro i hi hv
    refine wr_iload C 0 dW_lock_32 rfl ?_
    refine wr_iconst C (v := nI 5) dW_lock_34 (by decide) ?_
    refine wr_icmp_ge C (tgt := 76) dW_lock_35 (by decide) (fun h1 => absurd h1 (wc_noge (by omega) (by omega) (by omega))) (fun _ => ?_)
    refine wr_aload_n C 1 dW_lock_38 rfl rfl ?_
    refine wf_WC_transactions C  (Or.inl tw_121) dW_lock_39 ?_
    refine wr_iload C 0 dW_lock_42 rfl ?_
    refine wa_txs C (by omega) dW_lock_44 ?_
    refine wr_aload_n C 2 dW_lock_45 rfl rfl ?_
    refine wr_iload_n C 3 dW_lock_46 rfl rfl ?_
    refine wr_iload_n C 4 dW_lock_47 rfl rfl ?_
    refine wr_callS1 C (As := [.ref (Γ.2.2 (35 + i)), .ref (Γ.2.2 (35 + t)), .int (nI k), .int kind]) (rest := []) (mc_conflicts l Γ σ μ (o := i) (t := t) (k := k) (by omega) (by omega) (by omega) kind) cb_W_conflicts (Or.inl tw_186) tw_187 (by decide) (by decide) rfl rfl (Nat.le_of_ble_eq_true rfl) ⟨Nat.le_refl _, Nat.le_refl _⟩ dW_lock_48 ?_
    refine wr_if_eq C (tgt := 70) dW_lock_51 (by decide) (fun h2 => ?_) (fun h2 => ?_)
    ·
      refine wr_iinc C (v := nI (i + 1)) (vs' := [(4, .int (nI (i + 1))), (0, .ref (Γ.2.2 0)), (1, .ref (Γ.2.2 (35 + t))), (2, .int (nI k)), (3, .int kind)]) 0 dW_lock_70 rfl (wc_inc1 i) (by decide) rfl ?_
      refine wr_goto C (tgt := 32) dW_lock_73 (by decide) ?_
      refine wr_sub [0, 1, 2, 3, 4] rfl ?_
      exact ih (i + 1) (by omega) (by rw [← hv]; simp [fc_blk, *])
    ·
      refine wr_aload_n C 2 dW_lock_54 rfl rfl ?_
      refine wr_aload_n C 1 dW_lock_55 rfl rfl ?_
      refine wf_WC_transactions C  (Or.inl tw_121) dW_lock_56 ?_
      refine wr_iload C 0 dW_lock_59 rfl ?_
      refine wa_txs C (by omega) dW_lock_61 ?_
      refine wr_callS1 C (As := [.ref (Γ.2.2 (35 + t)), .ref (Γ.2.2 (35 + i))]) (rest := []) (mc_push l Γ σ μ (t := t) (o := i) (by omega) (by omega)) cb_W_canPushAside (Or.inl tw_189) tw_190 (by decide) (by decide) rfl rfl (Nat.le_of_ble_eq_true rfl) ⟨Nat.le_refl _, Nat.le_refl _⟩ dW_lock_62 ?_
      refine wr_if_ne C (tgt := 70) dW_lock_65 (by decide) (fun h3 => ?_) (fun h3 => ?_)
      ·
        refine wr_iinc C (v := nI (i + 1)) (vs' := [(4, .int (nI (i + 1))), (0, .ref (Γ.2.2 0)), (1, .ref (Γ.2.2 (35 + t))), (2, .int (nI k)), (3, .int kind)]) 0 dW_lock_70 rfl (wc_inc1 i) (by decide) rfl ?_
        refine wr_goto C (tgt := 32) dW_lock_73 (by decide) ?_
        refine wr_sub [0, 1, 2, 3, 4] rfl ?_
        exact ih (i + 1) (by omega) (by rw [← hv]; simp [fc_blk, *])
      ·
        refine wr_iconst C (v := nI 0) dW_lock_68 (by decide) ?_
        exact wr_iret C hr rfl hlk dW_lock_69 (by exact (hb (by rw [← hv]; simp [fc_blk, *])).1) (by first | exact (hb (by rw [← hv]; simp [fc_blk, *])).2.1 | exact (hb (by rw [← hv]; simp [fc_blk, *])).2.2) (by first | exact (hb (by rw [← hv]; simp [fc_blk, *])).2.1 | exact (hb (by rw [← hv]; simp [fc_blk, *])).2.2)
set_option maxRecDepth 100000 in
set_option maxHeartbeats 4000000 in
theorem ml_lock2 {P0 : Program} {l : Launch} {E0 : Env} {S0 : State} {M0 : MethodId} {A0 : Array Value} {B0 : List Frame} {T0 : Method} {K0 : Code} {Γ : wc_G} {A : Nat → Prop} {v : Option Value} {σ' μ' : wc_St} (C : wc_C P0 S0 M0 A0 K0 cW_lock 5 "WaitedCommits" Γ A) (hr : T0.sig.returnType = (some .boolean)) (hlk : T0.locks = false) {t k : Nat} (ht : t < 5) (hk : k < 9) (kind : Int32) (μ : wc_St) (σe : wc_St) (hx : wc_K P0 l E0 (wc_rm 2) S0 M0 A0 B0 T0 K0 5 Γ A (MQ B0 (wc_Qw Γ A v σ' μ') A0 S0 0 0 A) 0 0 117 [(4, .int (nI 5)), (0, .ref (Γ.2.2 0)), (1, .ref (Γ.2.2 (35 + t))), (2, .int (nI k)), (3, .int kind)] [] σe μ) : ∀ (n : Nat) (i : Nat) (σ : wc_St), i + n = 5 → fc_pushAll t k kind n i σ = σe → wc_K P0 l E0 (wc_rm 2) S0 M0 A0 B0 T0 K0 5 Γ A (MQ B0 (wc_Qw Γ A v σ' μ') A0 S0 0 0 A) 0 0 79 [(4, .int (nI i)), (0, .ref (Γ.2.2 0)), (1, .ref (Γ.2.2 (35 + t))), (2, .int (nI k)), (3, .int kind)] [] σ μ := by
  intro n
  induction n with
  | zero =>
    intro i σ hi hv
    obtain rfl : i = 5 := by omega
    refine wr_iload C 0 dW_lock_79 rfl ?_
    refine wr_iconst C (v := nI 5) dW_lock_81 (by decide) ?_
    refine wr_icmp_ge C (tgt := 117) dW_lock_82 (by decide) (fun _ => ?_) (fun h1 => absurd (by decide) h1)
    obtain rfl : σ = σe := hv
    exact hx
  | succ n ih =>
    intro i σ hi hv
    refine wr_iload C 0 dW_lock_79 rfl ?_
    refine wr_iconst C (v := nI 5) dW_lock_81 (by decide) ?_
    refine wr_icmp_ge C (tgt := 117) dW_lock_82 (by decide) (fun h1 => absurd h1 (wc_noge (by omega) (by omega) (by omega))) (fun _ => ?_)
    refine wr_aload_n C 1 dW_lock_85 rfl rfl ?_
    refine wf_WC_transactions C  (Or.inl tw_121) dW_lock_86 ?_
    refine wr_iload C 0 dW_lock_89 rfl ?_
    refine wa_txs C (by omega) dW_lock_91 ?_
    refine wr_aload_n C 2 dW_lock_92 rfl rfl ?_
    refine wr_iload_n C 3 dW_lock_93 rfl rfl ?_
    refine wr_iload_n C 4 dW_lock_94 rfl rfl ?_
    refine wr_callS1 C (As := [.ref (Γ.2.2 (35 + i)), .ref (Γ.2.2 (35 + t)), .int (nI k), .int kind]) (rest := []) (mc_conflicts l Γ σ μ (o := i) (t := t) (k := k) (by omega) (by omega) (by omega) kind) cb_W_conflicts (Or.inl tw_186) tw_187 (by decide) (by decide) rfl rfl (Nat.le_of_ble_eq_true rfl) ⟨Nat.le_refl _, Nat.le_refl _⟩ dW_lock_95 ?_
    refine wr_if_eq C (tgt := 111) dW_lock_98 (by decide) (fun h2 => ?_) (fun h2 => ?_)
    ·
      refine wr_iinc C (v := nI (i + 1)) (vs' := [(4, .int (nI (i + 1))), (0, .ref (Γ.2.2 0)), (1, .ref (Γ.2.2 (35 + t))), (2, .int (nI k)), (3, .int kind)]) 0 dW_lock_111 rfl (wc_inc1 i) (by decide) rfl ?_
      refine wr_goto C (tgt := 79) dW_lock_114 (by decide) ?_
      refine wr_sub [0, 1, 2, 3, 4] rfl ?_
      exact ih (i + 1) σ (by omega) (by rw [← hv]; simp [fc_pushAll, *])
    ·
      refine wr_aload_n C 1 dW_lock_101 rfl rfl ?_
      refine wf_WC_transactions C  (Or.inl tw_121) dW_lock_102 ?_
      refine wr_iload C 0 dW_lock_105 rfl ?_
      refine wa_txs C (by omega) dW_lock_107 ?_
      refine wr_callV0 C (As := []) (rest := []) (mc_giveUp l Γ σ μ (t := i) (by omega)) cb_T_giveUp (Or.inr ⟨_, tw_192⟩) tw_193 tw_534 (by omega) (wc_c_Tx (by omega)) rfl (by decide) (by decide) rfl rfl (Nat.le_of_ble_eq_true rfl) ⟨Nat.le_refl _, Nat.le_refl _⟩ dW_lock_108 ?_
      generalize hs1 : fc_giveUp σ i = σ1
      refine wr_iinc C (v := nI (i + 1)) (vs' := [(4, .int (nI (i + 1))), (0, .ref (Γ.2.2 0)), (1, .ref (Γ.2.2 (35 + t))), (2, .int (nI k)), (3, .int kind)]) 0 dW_lock_111 rfl (wc_inc1 i) (by decide) rfl ?_
      refine wr_goto C (tgt := 79) dW_lock_114 (by decide) ?_
      refine wr_sub [0, 1, 2, 3, 4] rfl ?_
      exact ih (i + 1) σ1 (by omega) (by rw [← hv]; simp [fc_pushAll, *])
set_option maxRecDepth 100000 in
set_option maxHeartbeats 4000000 in
theorem mc_lock (l : Launch) (Γ : wc_G) (σ μ : wc_St) {t k : Nat} (ht : t < 5) (hk : k < 9) (kind : Int32) : wc_M l yW_lock cW_lock 5 (some .boolean) 2 Γ [.ref (Γ.2.2 0), .ref (Γ.2.2 (35 + t)), .int (nI k), .int kind] σ μ (some (.int ((fc_lock σ t k kind).1))) ((fc_lock σ t k kind).2) μ := by
  refine wc_enter "WaitedCommits" (by decide) rfl (Nat.le_of_ble_eq_true rfl) ?_
  intro P0 E0 S0 M0 A0 B0 T0 K0 C hr hlk
  refine wr_vs (vs' := [(0, .ref (Γ.2.2 0)), (1, .ref (Γ.2.2 (35 + t))), (2, .int (nI k)), (3, .int kind)]) rfl ?_
  refine wr_aload_n C 0 dW_lock_0 rfl rfl ?_
  refine wf_WC_sites C  (Or.inl tw_119) dW_lock_1 ?_
  refine wr_iload_n C 2 dW_lock_4 rfl rfl ?_
  refine wr_callS1 C (As := [.int (nI k)]) (rest := [.ref (Γ.2.2 1)]) (mc_siteOf l Γ σ μ (k := k) (by omega)) cb_W_siteOf (Or.inl tw_183) tw_184 (by decide) (by decide) rfl rfl (Nat.le_of_ble_eq_true rfl) ⟨Nat.le_refl _, Nat.le_refl _⟩ dW_lock_5 ?_
  refine wa_sites C (by omega) dW_lock_8 ?_
  refine wf_Site_isUp C (by omega) (Or.inr ⟨_, tw_38⟩) dW_lock_9 ?_
  refine wr_if_ne C (tgt := 17) dW_lock_12 (by decide) (fun h1 => ?_) (fun h1 => ?_)
  ·
    refine wr_aload_n C 1 dW_lock_17 rfl rfl ?_
    refine wf_Tx_locks C (by omega) (Or.inr ⟨_, tw_80⟩) dW_lock_18 ?_
    refine wr_iload_n C 2 dW_lock_21 rfl rfl ?_
    refine wa_locks C (by omega) (by omega) dW_lock_22 ?_
    refine wr_iload_n C 3 dW_lock_23 rfl rfl ?_
    refine wr_icmp_lt C (tgt := 29) dW_lock_24 (by decide) (fun h2 => ?_) (fun h2 => ?_)
    ·
      refine wr_iconst C (v := nI 0) dW_lock_29 (by decide) ?_
      refine wr_istore C (vs' := [(4, .int (nI 0)), (0, .ref (Γ.2.2 0)), (1, .ref (Γ.2.2 (35 + t))), (2, .int (nI k)), (3, .int kind)]) dW_lock_30 (by decide) rfl ?_
      refine wr_sub [0, 1, 2, 3, 4] rfl ?_
      refine ml_lock1 C hr hlk ht hk kind σ μ (fc_blk σ t k kind 5 0) (fun hb => ?_) (fun hb => ⟨by simp [fc_lock, *], by simp [fc_lock, *], rfl⟩) 5 0 rfl rfl
      refine wr_iconst C (v := nI 0) dW_lock_76 (by decide) ?_
      refine wr_istore C (vs' := [(4, .int (nI 0)), (0, .ref (Γ.2.2 0)), (1, .ref (Γ.2.2 (35 + t))), (2, .int (nI k)), (3, .int kind)]) dW_lock_77 (by decide) rfl ?_
      refine wr_sub [0, 1, 2, 3, 4] rfl ?_
      generalize he : fc_pushAll t k kind 5 0 σ = σe
      refine ml_lock2 C hr hlk ht hk kind μ σe ?_ 5 0 σ rfl he
      refine wr_aload_n C 2 dW_lock_117 rfl rfl ?_
      refine wf_Tx_locks C (by omega) (Or.inr ⟨_, tw_80⟩) dW_lock_118 ?_
      refine wr_iload_n C 3 dW_lock_121 rfl rfl ?_
      refine wr_iload_n C 4 dW_lock_122 rfl rfl ?_
      refine ws_locks C (by omega) (by omega) dW_lock_123 ?_
      generalize hs2 : wc_st σe 15 t k kind = σ2
      refine wr_iconst C (v := nI 1) dW_lock_124 (by decide) ?_
      exact wr_iret C hr rfl hlk dW_lock_125 (by subst_vars; simp [fc_lock, *]) (by first | rfl | (subst_vars; simp [fc_lock, *]; done)) (by first | rfl | (subst_vars; simp [fc_lock, *]; done))
    ·
      refine wr_iconst C (v := nI 1) dW_lock_27 (by decide) ?_
      exact wr_iret C hr rfl hlk dW_lock_28 (by subst_vars; simp [fc_lock, *]) (by first | rfl | (subst_vars; simp [fc_lock, *]; done)) (by first | rfl | (subst_vars; simp [fc_lock, *]; done))
  ·
    refine wr_iconst C (v := nI 0) dW_lock_15 (by decide) ?_
    exact wr_iret C hr rfl hlk dW_lock_16 (by subst_vars; simp [fc_lock, *]) (by first | rfl | (subst_vars; simp [fc_lock, *]; done)) (by first | rfl | (subst_vars; simp [fc_lock, *]; done))
set_option maxRecDepth 100000 in
set_option maxHeartbeats 4000000 in
theorem mc_send (l : Launch) (Γ : wc_G) (σ μ : wc_St) (kind : Int32) {t q c : Nat} (ht : t < 5) (hq : q < 3) (hc3 : c < 3) (hc : σ 10 t 0 = nI c) : wc_M l yW_send cW_send 6 none 0 Γ [.ref (Γ.2.2 0), .int kind, .int (nI t), .int (nI q)] σ μ none (fc_send σ kind t q c) μ := by
  refine wc_enter "WaitedCommits" (by decide) rfl (Nat.le_of_ble_eq_true rfl) ?_
  intro P0 E0 S0 M0 A0 B0 T0 K0 C hr hlk
  refine wr_vs (vs' := [(0, .ref (Γ.2.2 0)), (1, .int kind), (2, .int (nI t)), (3, .int (nI q))]) rfl ?_
  refine wr_aload_n C 0 dW_send_0 rfl rfl ?_
  refine wf_WC_transactions C  (Or.inl tw_121) dW_send_1 ?_
  refine wr_iload_n C 2 dW_send_4 rfl rfl ?_
  refine wa_txs C (by omega) dW_send_5 ?_
  refine wf_Tx_coordinator C (by omega) (Or.inr ⟨_, tw_70⟩) dW_send_6 ?_
  refine wr_top (show σ 10 t 0 = nI c by exact hc) ?_
  refine wr_istore C (vs' := [(4, .int (nI c)), (0, .ref (Γ.2.2 0)), (1, .int kind), (2, .int (nI t)), (3, .int (nI q))]) dW_send_9 (by decide) rfl ?_
  refine wr_aload_n C 1 dW_send_11 rfl rfl ?_
  refine wf_WC_slots C  (Or.inl tw_122) dW_send_12 ?_
  refine wr_iload_n C 3 dW_send_15 rfl rfl ?_
  refine wr_iconst C (v := nI 3) dW_send_16 (by decide) ?_
  refine wr_imul C (z := nI (t * 3)) dW_send_17 (pk_mul t 3) ?_
  refine wr_iload_n C 4 dW_send_18 rfl rfl ?_
  refine wr_iadd C (z := nI (t * 3 + q)) dW_send_19 (nI_add (t * 3) q) ?_
  refine wa_slots C (by omega) dW_send_20 ?_
  refine wr_astore C (vs' := [(5, .ref (Γ.2.2 (55 + (t * 3 + q)))), (4, .int (nI c)), (0, .ref (Γ.2.2 0)), (1, .int kind), (2, .int (nI t)), (3, .int (nI q))]) dW_send_21 (by decide) rfl ?_
  refine wr_aload C 0 dW_send_23 rfl ?_
  refine wr_iload_n C 3 dW_send_25 rfl rfl ?_
  refine wp_Msg_kind C (by omega) (Or.inr ⟨_, tw_105⟩) dW_send_26 ?_
  generalize hs1 : wc_st σ 18 (t * 3 + q) 0 kind = σ1
  refine wr_aload C 0 dW_send_29 rfl ?_
  refine wr_iload_n C 3 dW_send_31 rfl rfl ?_
  refine wr_iconst C (v := nI 2) dW_send_32 (by decide) ?_
  refine wr_icmp_ne C (tgt := 41) dW_send_33 (by decide) (fun h1 => ?_) (fun h1 => ?_)
  ·
    refine wr_iload_n C 5 dW_send_41 rfl rfl ?_
    refine wp_Msg_receiver C (by omega) (Or.inr ⟨_, tw_107⟩) dW_send_42 ?_
    generalize hs2 : wc_st σ1 19 (t * 3 + q) 0 (nI q) = σ2
    refine wr_aload C 0 dW_send_45 rfl ?_
    refine wr_aload_n C 2 dW_send_47 rfl rfl ?_
    refine wf_WC_time C  (Or.inl tw_123) dW_send_48 ?_
    refine wr_iconst C (v := nI 1) dW_send_51 (by decide) ?_
    refine wr_iadd C (z := (σ2 23 0 0) + (nI 1)) dW_send_52 rfl ?_
    refine wr_aload_n C 2 dW_send_53 rfl rfl ?_
    refine wf_WC_sites C  (Or.inl tw_119) dW_send_54 ?_
    refine wr_iload C 1 dW_send_57 rfl ?_
    refine wa_sites C (by omega) dW_send_59 ?_
    refine wf_Site_delay C (by omega) (Or.inr ⟨_, tw_36⟩) dW_send_60 ?_
    refine wr_iadd C (z := ((σ2 23 0 0) + (nI 1)) + (σ2 2 c 0)) dW_send_63 rfl ?_
    refine wr_aload_n C 2 dW_send_64 rfl rfl ?_
    refine wf_WC_sites C  (Or.inl tw_119) dW_send_65 ?_
    refine wr_iload_n C 5 dW_send_68 rfl rfl ?_
    refine wa_sites C (by omega) dW_send_69 ?_
    refine wf_Site_delay C (by omega) (Or.inr ⟨_, tw_36⟩) dW_send_70 ?_
    refine wr_iadd C (z := (((σ2 23 0 0) + (nI 1)) + (σ2 2 c 0)) + (σ2 2 q 0)) dW_send_73 rfl ?_
    refine wp_Msg_arrival C (by omega) (Or.inr ⟨_, tw_109⟩) dW_send_74 ?_
    generalize hs3 : wc_st σ2 20 (t * 3 + q) 0 ((((σ2 23 0 0) + (nI 1)) + (σ2 2 c 0)) + (σ2 2 q 0)) = σ3
    refine wr_aload C 0 dW_send_77 rfl ?_
    refine wr_aload_n C 2 dW_send_79 rfl rfl ?_
    refine wf_WC_sent C  (Or.inl tw_125) dW_send_80 ?_
    refine wp_Msg_order C (by omega) (Or.inr ⟨_, tw_111⟩) dW_send_83 ?_
    generalize hs4 : wc_st σ3 21 (t * 3 + q) 0 (σ3 25 0 0) = σ4
    refine wr_aload_n C 2 dW_send_86 rfl rfl ?_
    refine wr_dup C dW_send_87 rfl ?_
    refine wf_WC_sent C  (Or.inl tw_125) dW_send_88 ?_
    refine wr_iconst C (v := nI 1) dW_send_91 (by decide) ?_
    refine wr_iadd C (z := (σ4 25 0 0) + (nI 1)) dW_send_92 rfl ?_
    refine wp_WC_sent C  (Or.inl tw_125) dW_send_93 ?_
    generalize hs5 : wc_st σ4 25 0 0 ((σ4 25 0 0) + (nI 1)) = σ5
    refine wr_aload_n C 2 dW_send_96 rfl rfl ?_
    refine wr_dup C dW_send_97 rfl ?_
    refine wf_WC_underWay C  (Or.inl tw_126) dW_send_98 ?_
    refine wr_iconst C (v := nI 1) dW_send_101 (by decide) ?_
    refine wr_iadd C (z := (σ5 26 0 0) + (nI 1)) dW_send_102 rfl ?_
    refine wp_WC_underWay C  (Or.inl tw_126) dW_send_103 ?_
    generalize hs6 : wc_st σ5 26 0 0 ((σ5 26 0 0) + (nI 1)) = σ6
    exact wr_vret C hr hlk dW_send_106 rfl (by first | rfl | (subst_vars; simp [fc_send, *]; done)) (by first | rfl | (subst_vars; simp [fc_send, *]; done))
  ·
    refine wr_iload C 1 dW_send_36 rfl ?_
    refine wr_goto C (tgt := 42) dW_send_38 (by decide) ?_
    refine wp_Msg_receiver C (by omega) (Or.inr ⟨_, tw_107⟩) dW_send_42 ?_
    generalize hs7 : wc_st σ1 19 (t * 3 + q) 0 (nI c) = σ7
    refine wr_aload C 0 dW_send_45 rfl ?_
    refine wr_aload_n C 2 dW_send_47 rfl rfl ?_
    refine wf_WC_time C  (Or.inl tw_123) dW_send_48 ?_
    refine wr_iconst C (v := nI 1) dW_send_51 (by decide) ?_
    refine wr_iadd C (z := (σ7 23 0 0) + (nI 1)) dW_send_52 rfl ?_
    refine wr_aload_n C 2 dW_send_53 rfl rfl ?_
    refine wf_WC_sites C  (Or.inl tw_119) dW_send_54 ?_
    refine wr_iload C 1 dW_send_57 rfl ?_
    refine wa_sites C (by omega) dW_send_59 ?_
    refine wf_Site_delay C (by omega) (Or.inr ⟨_, tw_36⟩) dW_send_60 ?_
    refine wr_iadd C (z := ((σ7 23 0 0) + (nI 1)) + (σ7 2 c 0)) dW_send_63 rfl ?_
    refine wr_aload_n C 2 dW_send_64 rfl rfl ?_
    refine wf_WC_sites C  (Or.inl tw_119) dW_send_65 ?_
    refine wr_iload_n C 5 dW_send_68 rfl rfl ?_
    refine wa_sites C (by omega) dW_send_69 ?_
    refine wf_Site_delay C (by omega) (Or.inr ⟨_, tw_36⟩) dW_send_70 ?_
    refine wr_iadd C (z := (((σ7 23 0 0) + (nI 1)) + (σ7 2 c 0)) + (σ7 2 q 0)) dW_send_73 rfl ?_
    refine wp_Msg_arrival C (by omega) (Or.inr ⟨_, tw_109⟩) dW_send_74 ?_
    generalize hs8 : wc_st σ7 20 (t * 3 + q) 0 ((((σ7 23 0 0) + (nI 1)) + (σ7 2 c 0)) + (σ7 2 q 0)) = σ8
    refine wr_aload C 0 dW_send_77 rfl ?_
    refine wr_aload_n C 2 dW_send_79 rfl rfl ?_
    refine wf_WC_sent C  (Or.inl tw_125) dW_send_80 ?_
    refine wp_Msg_order C (by omega) (Or.inr ⟨_, tw_111⟩) dW_send_83 ?_
    generalize hs9 : wc_st σ8 21 (t * 3 + q) 0 (σ8 25 0 0) = σ9
    refine wr_aload_n C 2 dW_send_86 rfl rfl ?_
    refine wr_dup C dW_send_87 rfl ?_
    refine wf_WC_sent C  (Or.inl tw_125) dW_send_88 ?_
    refine wr_iconst C (v := nI 1) dW_send_91 (by decide) ?_
    refine wr_iadd C (z := (σ9 25 0 0) + (nI 1)) dW_send_92 rfl ?_
    refine wp_WC_sent C  (Or.inl tw_125) dW_send_93 ?_
    generalize hs10 : wc_st σ9 25 0 0 ((σ9 25 0 0) + (nI 1)) = σ10
    refine wr_aload_n C 2 dW_send_96 rfl rfl ?_
    refine wr_dup C dW_send_97 rfl ?_
    refine wf_WC_underWay C  (Or.inl tw_126) dW_send_98 ?_
    refine wr_iconst C (v := nI 1) dW_send_101 (by decide) ?_
    refine wr_iadd C (z := (σ10 26 0 0) + (nI 1)) dW_send_102 rfl ?_
    refine wp_WC_underWay C  (Or.inl tw_126) dW_send_103 ?_
    generalize hs11 : wc_st σ10 26 0 0 ((σ10 26 0 0) + (nI 1)) = σ11
    exact wr_vret C hr hlk dW_send_106 rfl (by first | rfl | (subst_vars; simp [fc_send, *]; done)) (by first | rfl | (subst_vars; simp [fc_send, *]; done))
end
section
set_option maxRecDepth 100000 in
set_option maxHeartbeats 4000000 in
theorem ml_sto {P0 : Program} {l : Launch} {E0 : Env} {S0 : State} {M0 : MethodId} {A0 : Array Value} {B0 : List Frame} {T0 : Method} {K0 : Code} {Γ : wc_G} {A : Nat → Prop} {v : Option Value} {σ' μ' : wc_St} (C : wc_C P0 S0 M0 A0 K0 cW_sendToOthers 6 "WaitedCommits" Γ A) (hr : T0.sig.returnType = (some .int)) (hlk : T0.locks = false) (kind : Int32) {t c : Nat} (ht : t < 5) (hc3 : c < 3) (μ : wc_St) (hμ : μ = μ') (r1 : Nat) (hv : some (.int (nI r1)) = v) : ∀ (n : Nat) (q a : Nat) (σ : wc_St), q + n = 3 → σ 10 t 0 = nI c → fc_sto kind t c n q a σ = (r1, σ') → wc_K P0 l E0 (wc_rm 1) S0 M0 A0 B0 T0 K0 6 Γ A (MQ B0 (wc_Qw Γ A v σ' μ') A0 S0 0 0 A) 0 0 13 [(5, .int (nI q)), (4, .int (nI a)), (3, .ref (Γ.2.2 (35 + t))), (0, .ref (Γ.2.2 0)), (1, .int kind), (2, .int (nI t))] [] σ μ := by
  subst hμ
  intro n
  induction n with
  | zero =>
    intro q a σ hq hc hres
    obtain rfl : q = 3 := by omega
    refine wr_iload C 0 dW_sendToOthers_13 rfl ?_
    refine wr_iconst C (v := nI 3) dW_sendToOthers_15 (by decide) ?_
    refine wr_icmp_ge C (tgt := 54) dW_sendToOthers_16 (by decide) (fun _ => ?_) (fun h1 => absurd (by decide) h1)
    refine wr_iload C 1 dW_sendToOthers_54 rfl ?_
    exact wr_iret C hr rfl hlk dW_sendToOthers_56 (by rw [← hv, (Prod.mk.inj (show (a, σ) = (r1, σ') from hres)).1]) (by first | rfl | exact (Prod.mk.inj (show (a, σ) = (r1, σ') from hres)).2) (by first | rfl | exact (Prod.mk.inj (show (a, σ) = (r1, σ') from hres)).2)
  | succ n ih =>
    intro q a σ hq hc hres
    refine wr_iload C 0 dW_sendToOthers_13 rfl ?_
    refine wr_iconst C (v := nI 3) dW_sendToOthers_15 (by decide) ?_
    refine wr_icmp_ge C (tgt := 54) dW_sendToOthers_16 (by decide) (fun h1 => absurd h1 (wc_noge (by omega) (by omega) (by omega))) (fun _ => ?_)
    refine wr_iload C 0 dW_sendToOthers_19 rfl ?_
    refine wr_aload_n C 2 dW_sendToOthers_21 rfl rfl ?_
    refine wf_Tx_coordinator C (by omega) (Or.inr ⟨_, tw_70⟩) dW_sendToOthers_22 ?_
    refine wr_top (show σ 10 t 0 = nI c by subst_vars; first | exact hc | (simpa [wc_st, fc_sto_crd, fc_finish_crd, fc_send_crd] using hc)) ?_
    refine wr_icmp_eq C (tgt := 48) dW_sendToOthers_25 (by decide) (fun h2 => ?_) (fun h2 => ?_)
    ·
      rw [nI_eq (by omega) (by omega)] at h2
      refine wr_iinc C (v := nI (q + 1)) (vs' := [(5, .int (nI (q + 1))), (4, .int (nI a)), (3, .ref (Γ.2.2 (35 + t))), (0, .ref (Γ.2.2 0)), (1, .int kind), (2, .int (nI t))]) 0 dW_sendToOthers_48 rfl (wc_inc1 q) (by decide) rfl ?_
      refine wr_goto C (tgt := 13) dW_sendToOthers_51 (by decide) ?_
      refine wr_sub [0, 1, 2, 3, 4, 5] rfl ?_
      exact ih (q + 1) (a) σ (by omega) (by subst_vars; first | exact hc | (simpa [wc_st, fc_sto_crd, fc_finish_crd, fc_send_crd] using hc)) (by rw [← hres]; simp [fc_sto, *])
    ·
      rw [nI_eq (by omega) (by omega)] at h2
      refine wr_aload_n C 2 dW_sendToOthers_28 rfl rfl ?_
      refine wr_iload C 0 dW_sendToOthers_29 rfl ?_
      refine wr_callV1 C (As := [.int (nI q)]) (rest := []) (mc_holdsAt l Γ σ μ (t := t) (q := q) (by omega) (by omega)) cb_T_holdsAt (Or.inr ⟨_, tw_216⟩) tw_168 tw_531 (by omega) (wc_c_Tx (by omega)) rfl (by decide) (by decide) rfl rfl (Nat.le_of_ble_eq_true rfl) ⟨Nat.le_refl _, Nat.le_refl _⟩ dW_sendToOthers_31 ?_
      refine wr_if_eq C (tgt := 48) dW_sendToOthers_34 (by decide) (fun h3 => ?_) (fun h3 => ?_)
      ·
        refine wr_iinc C (v := nI (q + 1)) (vs' := [(5, .int (nI (q + 1))), (4, .int (nI a)), (3, .ref (Γ.2.2 (35 + t))), (0, .ref (Γ.2.2 0)), (1, .int kind), (2, .int (nI t))]) 0 dW_sendToOthers_48 rfl (wc_inc1 q) (by decide) rfl ?_
        refine wr_goto C (tgt := 13) dW_sendToOthers_51 (by decide) ?_
        refine wr_sub [0, 1, 2, 3, 4, 5] rfl ?_
        exact ih (q + 1) (a) σ (by omega) (by subst_vars; first | exact hc | (simpa [wc_st, fc_sto_crd, fc_finish_crd, fc_send_crd] using hc)) (by rw [← hres]; simp [fc_sto, *])
      ·
        refine wr_aload_n C 3 dW_sendToOthers_37 rfl rfl ?_
        refine wr_iload_n C 4 dW_sendToOthers_38 rfl rfl ?_
        refine wr_iload_n C 5 dW_sendToOthers_39 rfl rfl ?_
        refine wr_iload C 0 dW_sendToOthers_40 rfl ?_
        refine wr_callV0 C (As := [.int kind, .int (nI t), .int (nI q)]) (rest := []) (mc_send l Γ σ μ kind (t := t) (q := q) (c := c) (by omega) (by omega) (by omega) (by subst_vars; first | exact hc | (simpa [wc_st, fc_sto_crd, fc_finish_crd, fc_send_crd] using hc))) cb_W_send (Or.inl tw_217) tw_218 tw_539 (by omega) (wc_c_WC) rfl (by decide) (by decide) rfl rfl (Nat.le_of_ble_eq_true rfl) ⟨Nat.le_refl _, Nat.le_refl _⟩ dW_sendToOthers_42 ?_
        generalize hs1 : fc_send σ kind t q c = σ1
        refine wr_iinc C (v := nI (a + 1)) (vs' := [(4, .int (nI (a + 1))), (5, .int (nI q)), (3, .ref (Γ.2.2 (35 + t))), (0, .ref (Γ.2.2 0)), (1, .int kind), (2, .int (nI t))]) 1 dW_sendToOthers_45 rfl (wc_inc1 a) (by decide) rfl ?_
        refine wr_iinc C (v := nI (q + 1)) (vs' := [(5, .int (nI (q + 1))), (4, .int (nI (a + 1))), (3, .ref (Γ.2.2 (35 + t))), (0, .ref (Γ.2.2 0)), (1, .int kind), (2, .int (nI t))]) 1 dW_sendToOthers_48 rfl (wc_inc1 q) (by decide) rfl ?_
        refine wr_goto C (tgt := 13) dW_sendToOthers_51 (by decide) ?_
        refine wr_sub [0, 1, 2, 3, 4, 5] rfl ?_
        exact ih (q + 1) (a + 1) σ1 (by omega) (by subst_vars; first | exact hc | (simpa [wc_st, fc_sto_crd, fc_finish_crd, fc_send_crd] using hc)) (by rw [← hres]; simp [fc_sto, *])
set_option maxRecDepth 100000 in
set_option maxHeartbeats 4000000 in
theorem mc_sto (l : Launch) (Γ : wc_G) (σ μ : wc_St) (kind : Int32) {t c : Nat} (ht : t < 5) (hc3 : c < 3) (hc : σ 10 t 0 = nI c) : wc_M l yW_sendToOthers cW_sendToOthers 6 (some .int) 1 Γ [.ref (Γ.2.2 0), .int kind, .int (nI t)] σ μ (some (.int (nI ((fc_sto kind t c 3 0 0 σ).1)))) ((fc_sto kind t c 3 0 0 σ).2) μ := by
  refine wc_enter "WaitedCommits" (by decide) rfl (Nat.le_of_ble_eq_true rfl) ?_
  intro P0 E0 S0 M0 A0 B0 T0 K0 C hr hlk
  refine wr_vs (vs' := [(0, .ref (Γ.2.2 0)), (1, .int kind), (2, .int (nI t))]) rfl ?_
  refine wr_aload_n C 0 dW_sendToOthers_0 rfl rfl ?_
  refine wf_WC_transactions C  (Or.inl tw_121) dW_sendToOthers_1 ?_
  refine wr_iload_n C 2 dW_sendToOthers_4 rfl rfl ?_
  refine wa_txs C (by omega) dW_sendToOthers_5 ?_
  refine wr_astore_n C (vs' := [(3, .ref (Γ.2.2 (35 + t))), (0, .ref (Γ.2.2 0)), (1, .int kind), (2, .int (nI t))]) dW_sendToOthers_6 rfl (by decide) rfl ?_
  refine wr_iconst C (v := nI 0) dW_sendToOthers_7 (by decide) ?_
  refine wr_istore C (vs' := [(4, .int (nI 0)), (3, .ref (Γ.2.2 (35 + t))), (0, .ref (Γ.2.2 0)), (1, .int kind), (2, .int (nI t))]) dW_sendToOthers_8 (by decide) rfl ?_
  refine wr_iconst C (v := nI 0) dW_sendToOthers_10 (by decide) ?_
  refine wr_istore C (vs' := [(5, .int (nI 0)), (4, .int (nI 0)), (3, .ref (Γ.2.2 (35 + t))), (0, .ref (Γ.2.2 0)), (1, .int kind), (2, .int (nI t))]) dW_sendToOthers_11 (by decide) rfl ?_
  refine wr_sub [0, 1, 2, 3, 4, 5] rfl ?_
  exact ml_sto C hr hlk kind ht hc3 μ rfl _ rfl 3 0 0 σ rfl hc rfl
set_option maxRecDepth 100000 in
set_option maxHeartbeats 4000000 in
theorem mc_choose (l : Launch) (Γ : wc_G) (σ μ : wc_St) {t c : Nat} (ht : t < 5) (hc3 : c < 3) (hc : σ 10 t 0 = nI c) : wc_M l yW_chooseStamp cW_chooseStamp 3 none 2 Γ [.ref (Γ.2.2 0), .ref (Γ.2.2 (35 + t))] σ μ none (fc_choose σ t c) μ := by
  refine wc_enter "WaitedCommits" (by decide) rfl (Nat.le_of_ble_eq_true rfl) ?_
  intro P0 E0 S0 M0 A0 B0 T0 K0 C hr hlk
  refine wr_vs (vs' := [(0, .ref (Γ.2.2 0)), (1, .ref (Γ.2.2 (35 + t)))]) rfl ?_
  refine wr_aload_n C 0 dW_chooseStamp_0 rfl rfl ?_
  refine wf_WC_sites C  (Or.inl tw_119) dW_chooseStamp_1 ?_
  refine wr_aload_n C 1 dW_chooseStamp_4 rfl rfl ?_
  refine wf_Tx_coordinator C (by omega) (Or.inr ⟨_, tw_70⟩) dW_chooseStamp_5 ?_
  refine wr_top (show σ 10 t 0 = nI c by subst_vars; first | exact hc | (simpa [wc_st, fc_sto_crd, fc_finish_crd, fc_send_crd] using hc)) ?_
  refine wa_sites C (by omega) dW_chooseStamp_8 ?_
  refine wr_astore_n C (vs' := [(2, .ref (Γ.2.2 (5 + c))), (0, .ref (Γ.2.2 0)), (1, .ref (Γ.2.2 (35 + t)))]) dW_chooseStamp_9 rfl (by decide) rfl ?_
  refine wr_aload_n C 2 dW_chooseStamp_10 rfl rfl ?_
  refine wr_aload_n C 2 dW_chooseStamp_11 rfl rfl ?_
  refine wf_Tx_floor C (by omega) (Or.inr ⟨_, tw_72⟩) dW_chooseStamp_12 ?_
  refine wr_aload_n C 2 dW_chooseStamp_15 rfl rfl ?_
  refine wr_callV1 C (As := []) (rest := [.int (σ 11 t 0), .ref (Γ.2.2 (35 + t))]) (mc_gm l Γ σ μ (t := t) (by omega)) cb_T_greatestMark (Or.inr ⟨_, tw_223⟩) tw_224 tw_541 (by omega) (wc_c_Tx (by omega)) rfl (by decide) (by decide) rfl rfl (Nat.le_of_ble_eq_true rfl) ⟨Nat.le_refl _, Nat.le_refl _⟩ dW_chooseStamp_16 ?_
  refine wr_mmax C tw_23 tw_24 tw_2 tw_25 (by decide) (by decide) (Nat.le_of_ble_eq_true rfl) ⟨Nat.le_refl _, Nat.le_refl _⟩ dW_chooseStamp_19 ?_
  refine wr_aload_n C 0 dW_chooseStamp_22 rfl rfl ?_
  refine wf_Site_bound C (by omega) (Or.inr ⟨_, tw_40⟩) dW_chooseStamp_23 ?_
  refine wr_iconst C (v := nI 1) dW_chooseStamp_26 (by decide) ?_
  refine wr_iadd C (z := (σ 4 c 0) + (nI 1)) dW_chooseStamp_27 rfl ?_
  refine wr_mmax C tw_23 tw_24 tw_2 tw_25 (by decide) (by decide) (Nat.le_of_ble_eq_true rfl) ⟨Nat.le_refl _, Nat.le_refl _⟩ dW_chooseStamp_28 ?_
  refine wp_Tx_stamp C (by omega) (Or.inr ⟨_, tw_76⟩) dW_chooseStamp_31 ?_
  generalize hs1 : wc_st σ 13 t 0 (wc_mx (wc_mx (σ 11 t 0) (fc_gm σ t)) ((σ 4 c 0) + (nI 1))) = σ1
  refine wr_aload_n C 2 dW_chooseStamp_34 rfl rfl ?_
  refine wf_Tx_marks C (by omega) (Or.inr ⟨_, tw_84⟩) dW_chooseStamp_35 ?_
  refine wr_aload_n C 2 dW_chooseStamp_38 rfl rfl ?_
  refine wf_Tx_coordinator C (by omega) (Or.inr ⟨_, tw_70⟩) dW_chooseStamp_39 ?_
  refine wr_top (show σ1 10 t 0 = nI c by subst_vars; first | exact hc | (simpa [wc_st, fc_sto_crd, fc_finish_crd, fc_send_crd] using hc)) ?_
  refine wr_aload_n C 2 dW_chooseStamp_42 rfl rfl ?_
  refine wf_Tx_stamp C (by omega) (Or.inr ⟨_, tw_76⟩) dW_chooseStamp_43 ?_
  refine ws_marks C (by omega) (by omega) dW_chooseStamp_46 ?_
  generalize hs2 : wc_st σ1 17 t c (σ1 13 t 0) = σ2
  refine wr_aload_n C 0 dW_chooseStamp_47 rfl rfl ?_
  refine wr_aload_n C 2 dW_chooseStamp_48 rfl rfl ?_
  refine wf_Tx_stamp C (by omega) (Or.inr ⟨_, tw_76⟩) dW_chooseStamp_49 ?_
  refine wp_Site_bound C (by omega) (Or.inr ⟨_, tw_40⟩) dW_chooseStamp_52 ?_
  generalize hs3 : wc_st σ2 4 c 0 (σ2 13 t 0) = σ3
  refine wr_aload_n C 2 dW_chooseStamp_55 rfl rfl ?_
  refine wr_iconst C (v := nI 3) dW_chooseStamp_56 (by decide) ?_
  refine wp_Tx_state C (by omega) (Or.inr ⟨_, tw_66⟩) dW_chooseStamp_57 ?_
  generalize hs4 : wc_st σ3 8 t 0 (nI 3) = σ4
  exact wr_vret C hr hlk dW_chooseStamp_60 rfl (by subst_vars; rfl) (by subst_vars; rfl)
set_option maxRecDepth 100000 in
set_option maxHeartbeats 4000000 in
theorem mc_prepare (l : Launch) (Γ : wc_G) (σ μ : wc_St) {t c : Nat} (ht : t < 5) (hc3 : c < 3) (hc : σ 10 t 0 = nI c) : wc_M l yW_prepare cW_prepare 3 none 3 Γ [.ref (Γ.2.2 0), .int (nI t)] σ μ none (fc_prepare σ t c) μ := by
  refine wc_enter "WaitedCommits" (by decide) rfl (Nat.le_of_ble_eq_true rfl) ?_
  intro P0 E0 S0 M0 A0 B0 T0 K0 C hr hlk
  refine wr_vs (vs' := [(0, .ref (Γ.2.2 0)), (1, .int (nI t))]) rfl ?_
  refine wr_aload_n C 0 dW_prepare_0 rfl rfl ?_
  refine wf_WC_transactions C  (Or.inl tw_121) dW_prepare_1 ?_
  refine wr_iload_n C 1 dW_prepare_4 rfl rfl ?_
  refine wa_txs C (by omega) dW_prepare_5 ?_
  refine wr_astore_n C (vs' := [(2, .ref (Γ.2.2 (35 + t))), (0, .ref (Γ.2.2 0)), (1, .int (nI t))]) dW_prepare_6 rfl (by decide) rfl ?_
  refine wr_aload_n C 0 dW_prepare_7 rfl rfl ?_
  refine wr_iconst C (v := nI 2) dW_prepare_8 (by decide) ?_
  refine wp_Tx_state C (by omega) (Or.inr ⟨_, tw_66⟩) dW_prepare_9 ?_
  generalize hs1 : wc_st σ 8 t 0 (nI 2) = σ1
  refine wr_aload_n C 0 dW_prepare_12 rfl rfl ?_
  refine wr_aload_n C 1 dW_prepare_13 rfl rfl ?_
  refine wr_aload_n C 0 dW_prepare_14 rfl rfl ?_
  refine wf_Tx_coordinator C (by omega) (Or.inr ⟨_, tw_70⟩) dW_prepare_15 ?_
  refine wr_top (show σ1 10 t 0 = nI c by subst_vars; first | exact hc | (simpa [wc_st, fc_sto_crd, fc_finish_crd, fc_send_crd] using hc)) ?_
  refine wr_callV1 C (As := [.int (nI c)]) (rest := [.ref (Γ.2.2 (35 + t))]) (mc_latest l Γ σ1 μ (q := c) (by omega)) cb_W_latest (Or.inl tw_210) tw_211 tw_537 (by omega) (wc_c_WC) rfl (by decide) (by decide) rfl rfl (Nat.le_of_ble_eq_true rfl) ⟨Nat.le_refl _, Nat.le_refl _⟩ dW_prepare_18 ?_
  refine wr_iconst C (v := nI 1) dW_prepare_21 (by decide) ?_
  refine wr_iadd C (z := (fc_latest σ1 c) + (nI 1)) dW_prepare_22 rfl ?_
  refine wp_Tx_floor C (by omega) (Or.inr ⟨_, tw_72⟩) dW_prepare_23 ?_
  generalize hs2 : wc_st σ1 11 t 0 ((fc_latest σ1 c) + (nI 1)) = σ2
  refine wr_aload_n C 0 dW_prepare_26 rfl rfl ?_
  refine wr_aload_n C 1 dW_prepare_27 rfl rfl ?_
  refine wr_iconst C (v := nI 1) dW_prepare_28 (by decide) ?_
  refine wr_iload_n C 2 dW_prepare_29 rfl rfl ?_
  refine wr_callV1 C (As := [.int (nI 1), .int (nI t)]) (rest := [.ref (Γ.2.2 (35 + t))]) (mc_sto l Γ σ2 μ (nI 1) (t := t) (c := c) (by omega) (by omega) (by subst_vars; first | exact hc | (simpa [wc_st, fc_sto_crd, fc_finish_crd, fc_send_crd] using hc))) cb_W_sendToOthers (Or.inl tw_213) tw_214 tw_538 (by omega) (wc_c_WC) rfl (by decide) (by decide) rfl rfl (Nat.le_of_ble_eq_true rfl) ⟨Nat.le_refl _, Nat.le_refl _⟩ dW_prepare_30 ?_
  generalize hs3 : (fc_sto (nI 1) t c 3 0 0 σ2).2 = σ3
  refine wp_Tx_awaited C (by omega) (Or.inr ⟨_, tw_74⟩) dW_prepare_33 ?_
  generalize hs4 : wc_st σ3 12 t 0 (nI ((fc_sto (nI 1) t c 3 0 0 σ2).1)) = σ4
  refine wr_aload_n C 0 dW_prepare_36 rfl rfl ?_
  refine wf_Tx_awaited C (by omega) (Or.inr ⟨_, tw_74⟩) dW_prepare_37 ?_
  refine wr_if_ne C (tgt := 48) dW_prepare_40 (by decide) (fun h1 => ?_) (fun h1 => ?_)
  ·
    exact wr_vret C hr hlk dW_prepare_48 rfl (by first | rfl | (subst_vars; simp [fc_prepare, fc_prep2, fc_prep1, *]; done) | (subst_vars; unfold fc_prepare fc_prep2 fc_prep1; dsimp only; first | (rw [if_pos (by assumption)]; done) | (rw [if_neg (by assumption)]; done))) (by first | rfl | (subst_vars; simp [fc_prepare, fc_prep2, fc_prep1, *]; done) | (subst_vars; unfold fc_prepare fc_prep2 fc_prep1; dsimp only; first | (rw [if_pos (by assumption)]; done) | (rw [if_neg (by assumption)]; done)))
  ·
    refine wr_aload_n C 1 dW_prepare_43 rfl rfl ?_
    refine wr_aload_n C 0 dW_prepare_44 rfl rfl ?_
    refine wr_callV0 C (As := [.ref (Γ.2.2 (35 + t))]) (rest := []) (mc_choose l Γ σ4 μ (t := t) (c := c) (by omega) (by omega) (by subst_vars; first | exact hc | (simpa [wc_st, fc_sto_crd, fc_finish_crd, fc_send_crd] using hc))) cb_W_chooseStamp (Or.inl tw_220) tw_221 tw_540 (by omega) (wc_c_WC) rfl (by decide) (by decide) rfl rfl (Nat.le_of_ble_eq_true rfl) ⟨Nat.le_refl _, Nat.le_refl _⟩ dW_prepare_45 ?_
    generalize hs5 : fc_choose σ4 t c = σ5
    exact wr_vret C hr hlk dW_prepare_48 rfl (by first | rfl | (subst_vars; simp [fc_prepare, fc_prep2, fc_prep1, *]; done) | (subst_vars; unfold fc_prepare fc_prep2 fc_prep1; dsimp only; first | (rw [if_pos (by assumption)]; done) | (rw [if_neg (by assumption)]; done))) (by first | rfl | (subst_vars; simp [fc_prepare, fc_prep2, fc_prep1, *]; done) | (subst_vars; unfold fc_prepare fc_prep2 fc_prep1; dsimp only; first | (rw [if_pos (by assumption)]; done) | (rw [if_neg (by assumption)]; done)))
set_option maxRecDepth 100000 in
set_option maxHeartbeats 4000000 in
theorem mc_takePrepare (l : Launch) (Γ : wc_G) (σ μ : wc_St) {t q c : Nat} (ht : t < 5) (hq : q < 3) (hc3 : c < 3) (hc : σ 10 t 0 = nI c) : wc_M l yW_takePrepare cW_takePrepare 4 none 1 Γ [.ref (Γ.2.2 0), .int (nI t), .int (nI q)] σ μ none (fc_takePrepare σ t q c) μ := by
  refine wc_enter "WaitedCommits" (by decide) rfl (Nat.le_of_ble_eq_true rfl) ?_
  intro P0 E0 S0 M0 A0 B0 T0 K0 C hr hlk
  refine wr_vs (vs' := [(0, .ref (Γ.2.2 0)), (1, .int (nI t)), (2, .int (nI q))]) rfl ?_
  refine wr_aload_n C 0 dW_takePrepare_0 rfl rfl ?_
  refine wr_iload_n C 2 dW_takePrepare_1 rfl rfl ?_
  refine wr_callV1 C (As := [.int (nI q)]) (rest := []) (mc_latest l Γ σ μ (q := q) (by omega)) cb_W_latest (Or.inl tw_210) tw_211 tw_537 (by omega) (wc_c_WC) rfl (by decide) (by decide) rfl rfl (Nat.le_of_ble_eq_true rfl) ⟨Nat.le_refl _, Nat.le_refl _⟩ dW_takePrepare_2 ?_
  refine wr_aload_n C 0 dW_takePrepare_5 rfl rfl ?_
  refine wf_WC_sites C  (Or.inl tw_119) dW_takePrepare_6 ?_
  refine wr_iload_n C 2 dW_takePrepare_9 rfl rfl ?_
  refine wa_sites C (by omega) dW_takePrepare_10 ?_
  refine wf_Site_bound C (by omega) (Or.inr ⟨_, tw_40⟩) dW_takePrepare_11 ?_
  refine wr_iconst C (v := nI 1) dW_takePrepare_14 (by decide) ?_
  refine wr_iadd C (z := (σ 4 q 0) + (nI 1)) dW_takePrepare_15 rfl ?_
  refine wr_mmax C tw_23 tw_24 tw_2 tw_25 (by decide) (by decide) (Nat.le_of_ble_eq_true rfl) ⟨Nat.le_refl _, Nat.le_refl _⟩ dW_takePrepare_16 ?_
  refine wr_istore_n C (vs' := [(3, .int (wc_mx (fc_latest σ q) ((σ 4 q 0) + (nI 1)))), (0, .ref (Γ.2.2 0)), (1, .int (nI t)), (2, .int (nI q))]) dW_takePrepare_19 rfl (by decide) rfl ?_
  refine wr_aload_n C 1 dW_takePrepare_20 rfl rfl ?_
  refine wf_WC_transactions C  (Or.inl tw_121) dW_takePrepare_21 ?_
  refine wr_iload_n C 2 dW_takePrepare_24 rfl rfl ?_
  refine wa_txs C (by omega) dW_takePrepare_25 ?_
  refine wf_Tx_marks C (by omega) (Or.inr ⟨_, tw_84⟩) dW_takePrepare_26 ?_
  refine wr_iload_n C 3 dW_takePrepare_29 rfl rfl ?_
  refine wr_iload_n C 0 dW_takePrepare_30 rfl rfl ?_
  refine ws_marks C (by omega) (by omega) dW_takePrepare_31 ?_
  generalize hs1 : wc_st σ 17 t q (wc_mx (fc_latest σ q) ((σ 4 q 0) + (nI 1))) = σ1
  refine wr_aload_n C 1 dW_takePrepare_32 rfl rfl ?_
  refine wf_WC_sites C  (Or.inl tw_119) dW_takePrepare_33 ?_
  refine wr_iload_n C 3 dW_takePrepare_36 rfl rfl ?_
  refine wa_sites C (by omega) dW_takePrepare_37 ?_
  refine wr_iload_n C 0 dW_takePrepare_38 rfl rfl ?_
  refine wp_Site_bound C (by omega) (Or.inr ⟨_, tw_40⟩) dW_takePrepare_39 ?_
  generalize hs2 : wc_st σ1 4 q 0 (wc_mx (fc_latest σ q) ((σ 4 q 0) + (nI 1))) = σ2
  refine wr_aload_n C 1 dW_takePrepare_42 rfl rfl ?_
  refine wr_iconst C (v := nI 2) dW_takePrepare_43 (by decide) ?_
  refine wr_iload_n C 2 dW_takePrepare_44 rfl rfl ?_
  refine wr_iload_n C 3 dW_takePrepare_45 rfl rfl ?_
  refine wr_callV0 C (As := [.int (nI 2), .int (nI t), .int (nI q)]) (rest := []) (mc_send l Γ σ2 μ (nI 2) (t := t) (q := q) (c := c) (by omega) (by omega) (by omega) (by subst_vars; first | exact hc | (simpa [wc_st, fc_sto_crd, fc_finish_crd, fc_send_crd] using hc))) cb_W_send (Or.inl tw_217) tw_218 tw_539 (by omega) (wc_c_WC) rfl (by decide) (by decide) rfl rfl (Nat.le_of_ble_eq_true rfl) ⟨Nat.le_refl _, Nat.le_refl _⟩ dW_takePrepare_46 ?_
  generalize hs3 : fc_send σ2 (nI 2) t q c = σ3
  exact wr_vret C hr hlk dW_takePrepare_49 rfl (by subst_vars; rfl) (by subst_vars; rfl)
set_option maxRecDepth 100000 in
set_option maxHeartbeats 4000000 in
theorem mc_takePrepared (l : Launch) (Γ : wc_G) (σ μ : wc_St) {t c : Nat} (ht : t < 5) (hc3 : c < 3) (hc : σ 10 t 0 = nI c) : wc_M l yW_takePrepared cW_takePrepared 2 none 3 Γ [.ref (Γ.2.2 0), .ref (Γ.2.2 (35 + t))] σ μ none (fc_takePrepared σ t c) μ := by
  refine wc_enter "WaitedCommits" (by decide) rfl (Nat.le_of_ble_eq_true rfl) ?_
  intro P0 E0 S0 M0 A0 B0 T0 K0 C hr hlk
  refine wr_vs (vs' := [(0, .ref (Γ.2.2 0)), (1, .ref (Γ.2.2 (35 + t)))]) rfl ?_
  refine wr_aload_n C 1 dW_takePrepared_0 rfl rfl ?_
  refine wr_dup C dW_takePrepared_1 rfl ?_
  refine wf_Tx_awaited C (by omega) (Or.inr ⟨_, tw_74⟩) dW_takePrepared_2 ?_
  refine wr_iconst C (v := nI 1) dW_takePrepared_5 (by decide) ?_
  refine wr_isub C (z := (σ 12 t 0) - (nI 1)) dW_takePrepared_6 rfl ?_
  refine wp_Tx_awaited C (by omega) (Or.inr ⟨_, tw_74⟩) dW_takePrepared_7 ?_
  generalize hs1 : wc_st σ 12 t 0 ((σ 12 t 0) - (nI 1)) = σ1
  refine wr_aload_n C 1 dW_takePrepared_10 rfl rfl ?_
  refine wf_Tx_awaited C (by omega) (Or.inr ⟨_, tw_74⟩) dW_takePrepared_11 ?_
  refine wr_if_ne C (tgt := 22) dW_takePrepared_14 (by decide) (fun h1 => ?_) (fun h1 => ?_)
  ·
    exact wr_vret C hr hlk dW_takePrepared_22 rfl (by first | rfl | (subst_vars; unfold fc_takePrepared; dsimp only; first | (rw [if_pos (by assumption)]; done) | (rw [if_neg (by assumption)]; done))) (by first | rfl | (subst_vars; unfold fc_takePrepared; dsimp only; first | (rw [if_pos (by assumption)]; done) | (rw [if_neg (by assumption)]; done)))
  ·
    refine wr_aload_n C 0 dW_takePrepared_17 rfl rfl ?_
    refine wr_aload_n C 1 dW_takePrepared_18 rfl rfl ?_
    refine wr_callV0 C (As := [.ref (Γ.2.2 (35 + t))]) (rest := []) (mc_choose l Γ σ1 μ (t := t) (c := c) (by omega) (by omega) (by subst_vars; first | exact hc | (simpa [wc_st, fc_sto_crd, fc_finish_crd, fc_send_crd] using hc))) cb_W_chooseStamp (Or.inl tw_220) tw_221 tw_540 (by omega) (wc_c_WC) rfl (by decide) (by decide) rfl rfl (Nat.le_of_ble_eq_true rfl) ⟨Nat.le_refl _, Nat.le_refl _⟩ dW_takePrepared_19 ?_
    generalize hs2 : fc_choose σ1 t c = σ2
    exact wr_vret C hr hlk dW_takePrepared_22 rfl (by first | rfl | (subst_vars; unfold fc_takePrepared; dsimp only; first | (rw [if_pos (by assumption)]; done) | (rw [if_neg (by assumption)]; done))) (by first | rfl | (subst_vars; unfold fc_takePrepared; dsimp only; first | (rw [if_pos (by assumption)]; done) | (rw [if_neg (by assumption)]; done)))
set_option maxRecDepth 100000 in
set_option maxHeartbeats 4000000 in
theorem mc_finishAt (l : Launch) (Γ : wc_G) (σ μ : wc_St) {t q : Nat} (ht : t < 5) (hq : q < 3) : wc_M l yW_finishAt cW_finishAt 4 none 2 Γ [.ref (Γ.2.2 0), .ref (Γ.2.2 (35 + t)), .int (nI q)] σ μ none (fc_finish σ t q) μ := by
  refine wc_enter "WaitedCommits" (by decide) rfl (Nat.le_of_ble_eq_true rfl) ?_
  intro P0 E0 S0 M0 A0 B0 T0 K0 C hr hlk
  refine wr_vs (vs' := [(0, .ref (Γ.2.2 0)), (1, .ref (Γ.2.2 (35 + t))), (2, .int (nI q))]) rfl ?_
  refine wr_iload_n C 2 dW_finishAt_0 rfl rfl ?_
  refine wr_istore_n C (vs' := [(3, .int (nI q)), (0, .ref (Γ.2.2 0)), (1, .ref (Γ.2.2 (35 + t))), (2, .int (nI q))]) dW_finishAt_1 rfl (by decide) rfl ?_
  refine wr_iload_n C 0 dW_finishAt_2 rfl rfl ?_
  refine wr_bipush C (v := nI 9) dW_finishAt_3 (by decide) ?_
  refine wr_icmp_ge C (tgt := 43) dW_finishAt_5 (by decide) (fun h1 => absurd h1 (wc_noge (by omega) (by omega) (by omega))) (fun _ => ?_)
  refine wr_aload_n C 2 dW_finishAt_8 rfl rfl ?_
  refine wf_Tx_locks C (by omega) (Or.inr ⟨_, tw_80⟩) dW_finishAt_9 ?_
  refine wr_iload_n C 0 dW_finishAt_12 rfl rfl ?_
  refine wa_locks C (by omega) (by omega) dW_finishAt_13 ?_
  refine wr_iconst C (v := nI 2) dW_finishAt_14 (by decide) ?_
  refine wr_icmp_ne C (tgt := 37) dW_finishAt_15 (by decide) (fun h2 => ?_) (fun h2 => ?_)
  ·
    refine wr_iinc C (v := nI (q + 3)) (vs' := [(3, .int (nI (q + 3))), (0, .ref (Γ.2.2 0)), (1, .ref (Γ.2.2 (35 + t))), (2, .int (nI q))]) 0 dW_finishAt_37 rfl (wc_inc3 q) (by decide) rfl ?_
    refine wr_goto C (tgt := 2) dW_finishAt_40 (by decide) ?_
    refine wr_iload_n C 0 dW_finishAt_2 rfl rfl ?_
    refine wr_bipush C (v := nI 9) dW_finishAt_3 (by decide) ?_
    refine wr_icmp_ge C (tgt := 43) dW_finishAt_5 (by decide) (fun h3 => absurd h3 (wc_noge (by omega) (by omega) (by omega))) (fun _ => ?_)
    refine wr_aload_n C 2 dW_finishAt_8 rfl rfl ?_
    refine wf_Tx_locks C (by omega) (Or.inr ⟨_, tw_80⟩) dW_finishAt_9 ?_
    refine wr_iload_n C 0 dW_finishAt_12 rfl rfl ?_
    refine wa_locks C (by omega) (by omega) dW_finishAt_13 ?_
    refine wr_iconst C (v := nI 2) dW_finishAt_14 (by decide) ?_
    refine wr_icmp_ne C (tgt := 37) dW_finishAt_15 (by decide) (fun h4 => ?_) (fun h4 => ?_)
    ·
      refine wr_iinc C (v := nI (q + 3 + 3)) (vs' := [(3, .int (nI (q + 3 + 3))), (0, .ref (Γ.2.2 0)), (1, .ref (Γ.2.2 (35 + t))), (2, .int (nI q))]) 0 dW_finishAt_37 rfl (wc_inc3 (q + 3)) (by decide) rfl ?_
      refine wr_goto C (tgt := 2) dW_finishAt_40 (by decide) ?_
      refine wr_iload_n C 0 dW_finishAt_2 rfl rfl ?_
      refine wr_bipush C (v := nI 9) dW_finishAt_3 (by decide) ?_
      refine wr_icmp_ge C (tgt := 43) dW_finishAt_5 (by decide) (fun h5 => absurd h5 (wc_noge (by omega) (by omega) (by omega))) (fun _ => ?_)
      refine wr_aload_n C 2 dW_finishAt_8 rfl rfl ?_
      refine wf_Tx_locks C (by omega) (Or.inr ⟨_, tw_80⟩) dW_finishAt_9 ?_
      refine wr_iload_n C 0 dW_finishAt_12 rfl rfl ?_
      refine wa_locks C (by omega) (by omega) dW_finishAt_13 ?_
      refine wr_iconst C (v := nI 2) dW_finishAt_14 (by decide) ?_
      refine wr_icmp_ne C (tgt := 37) dW_finishAt_15 (by decide) (fun h6 => ?_) (fun h6 => ?_)
      ·
        refine wr_iinc C (v := nI (q + 3 + 3 + 3)) (vs' := [(3, .int (nI (q + 3 + 3 + 3))), (0, .ref (Γ.2.2 0)), (1, .ref (Γ.2.2 (35 + t))), (2, .int (nI q))]) 0 dW_finishAt_37 rfl (wc_inc3 (q + 3 + 3)) (by decide) rfl ?_
        refine wr_goto C (tgt := 2) dW_finishAt_40 (by decide) ?_
        refine wr_iload_n C 0 dW_finishAt_2 rfl rfl ?_
        refine wr_bipush C (v := nI 9) dW_finishAt_3 (by decide) ?_
        refine wr_icmp_ge C (tgt := 43) dW_finishAt_5 (by decide) (fun _ => ?_) (fun h7 => absurd (wc_yesge (by omega) (by omega) (by omega)) h7)
        refine wr_aload_n C 2 dW_finishAt_43 rfl rfl ?_
        refine wr_iload_n C 3 dW_finishAt_44 rfl rfl ?_
        refine wr_callV0 C (As := [.int (nI q)]) (rest := []) (mc_unlockAt l Γ σ μ (t := t) (q := q) (by omega) (by omega)) cb_T_unlockAt (Or.inr ⟨_, tw_282⟩) tw_196 tw_535 (by omega) (wc_c_Tx (by omega)) rfl (by decide) (by decide) rfl rfl (Nat.le_of_ble_eq_true rfl) ⟨Nat.le_refl _, Nat.le_refl _⟩ dW_finishAt_45 ?_
        generalize hs1 : fc_unlock σ t q = σ1
        refine wr_aload_n C 2 dW_finishAt_48 rfl rfl ?_
        refine wf_Tx_marks C (by omega) (Or.inr ⟨_, tw_84⟩) dW_finishAt_49 ?_
        refine wr_iload_n C 3 dW_finishAt_52 rfl rfl ?_
        refine wr_iconst C (v := nI 0) dW_finishAt_53 (by decide) ?_
        refine ws_marks C (by omega) (by omega) dW_finishAt_54 ?_
        generalize hs2 : wc_st σ1 17 t q (nI 0) = σ2
        refine wr_aload_n C 1 dW_finishAt_55 rfl rfl ?_
        refine wf_WC_sites C  (Or.inl tw_119) dW_finishAt_56 ?_
        refine wr_iload_n C 3 dW_finishAt_59 rfl rfl ?_
        refine wa_sites C (by omega) dW_finishAt_60 ?_
        refine wr_aload_n C 2 dW_finishAt_61 rfl rfl ?_
        refine wf_Tx_stamp C (by omega) (Or.inr ⟨_, tw_76⟩) dW_finishAt_62 ?_
        refine wr_callV0 C (As := [.int (σ2 13 t 0)]) (rest := []) (mc_raiseBound l Γ σ2 μ (q := q) (by omega) (σ2 13 t 0)) cb_S_raiseBound (Or.inr ⟨_, tw_242⟩) tw_243 tw_544 (by omega) (wc_c_Site (by omega)) rfl (by decide) (by decide) rfl rfl (Nat.le_of_ble_eq_true rfl) ⟨Nat.le_refl _, Nat.le_refl _⟩ dW_finishAt_65 ?_
        generalize hs3 : fc_raise σ2 q (σ2 13 t 0) = σ3
        exact wr_vret C hr hlk dW_finishAt_68 rfl (by first | rfl | (subst_vars; simp [fc_finish, fc_fin1, *]; done)) (by first | rfl | (subst_vars; simp [fc_finish, fc_fin1, *]; done))
      ·
        refine wr_aload_n C 1 dW_finishAt_18 rfl rfl ?_
        refine wf_WC_keys C  (Or.inl tw_120) dW_finishAt_19 ?_
        refine wr_iload_n C 0 dW_finishAt_22 rfl rfl ?_
        refine wa_keys C (by omega) dW_finishAt_23 ?_
        refine wr_aload_n C 2 dW_finishAt_24 rfl rfl ?_
        refine wf_Tx_written C (by omega) (Or.inr ⟨_, tw_82⟩) dW_finishAt_25 ?_
        refine wr_iload_n C 0 dW_finishAt_28 rfl rfl ?_
        refine wa_written C (by omega) (by omega) dW_finishAt_29 ?_
        refine wr_aload_n C 2 dW_finishAt_30 rfl rfl ?_
        refine wf_Tx_stamp C (by omega) (Or.inr ⟨_, tw_76⟩) dW_finishAt_31 ?_
        refine wr_callV0 C (As := [.int (σ 16 t (q + 3 + 3)), .int (σ 13 t 0)]) (rest := []) (mc_add l Γ σ μ (k := q + 3 + 3) (by omega) (σ 16 t (q + 3 + 3)) (σ 13 t 0)) cb_K_add (Or.inr ⟨_, tw_278⟩) tw_279 tw_554 (by omega) (wc_c_Key (by omega)) rfl (by decide) (by decide) rfl rfl (Nat.le_of_ble_eq_true rfl) ⟨Nat.le_refl _, Nat.le_refl _⟩ dW_finishAt_34 ?_
        generalize hs4 : fc_add σ (q + 3 + 3) (σ 16 t (q + 3 + 3)) (σ 13 t 0) = σ4
        refine wr_iinc C (v := nI (q + 3 + 3 + 3)) (vs' := [(3, .int (nI (q + 3 + 3 + 3))), (0, .ref (Γ.2.2 0)), (1, .ref (Γ.2.2 (35 + t))), (2, .int (nI q))]) 0 dW_finishAt_37 rfl (wc_inc3 (q + 3 + 3)) (by decide) rfl ?_
        refine wr_goto C (tgt := 2) dW_finishAt_40 (by decide) ?_
        refine wr_iload_n C 0 dW_finishAt_2 rfl rfl ?_
        refine wr_bipush C (v := nI 9) dW_finishAt_3 (by decide) ?_
        refine wr_icmp_ge C (tgt := 43) dW_finishAt_5 (by decide) (fun _ => ?_) (fun h8 => absurd (wc_yesge (by omega) (by omega) (by omega)) h8)
        refine wr_aload_n C 2 dW_finishAt_43 rfl rfl ?_
        refine wr_iload_n C 3 dW_finishAt_44 rfl rfl ?_
        refine wr_callV0 C (As := [.int (nI q)]) (rest := []) (mc_unlockAt l Γ σ4 μ (t := t) (q := q) (by omega) (by omega)) cb_T_unlockAt (Or.inr ⟨_, tw_282⟩) tw_196 tw_535 (by omega) (wc_c_Tx (by omega)) rfl (by decide) (by decide) rfl rfl (Nat.le_of_ble_eq_true rfl) ⟨Nat.le_refl _, Nat.le_refl _⟩ dW_finishAt_45 ?_
        generalize hs5 : fc_unlock σ4 t q = σ5
        refine wr_aload_n C 2 dW_finishAt_48 rfl rfl ?_
        refine wf_Tx_marks C (by omega) (Or.inr ⟨_, tw_84⟩) dW_finishAt_49 ?_
        refine wr_iload_n C 3 dW_finishAt_52 rfl rfl ?_
        refine wr_iconst C (v := nI 0) dW_finishAt_53 (by decide) ?_
        refine ws_marks C (by omega) (by omega) dW_finishAt_54 ?_
        generalize hs6 : wc_st σ5 17 t q (nI 0) = σ6
        refine wr_aload_n C 1 dW_finishAt_55 rfl rfl ?_
        refine wf_WC_sites C  (Or.inl tw_119) dW_finishAt_56 ?_
        refine wr_iload_n C 3 dW_finishAt_59 rfl rfl ?_
        refine wa_sites C (by omega) dW_finishAt_60 ?_
        refine wr_aload_n C 2 dW_finishAt_61 rfl rfl ?_
        refine wf_Tx_stamp C (by omega) (Or.inr ⟨_, tw_76⟩) dW_finishAt_62 ?_
        refine wr_callV0 C (As := [.int (σ6 13 t 0)]) (rest := []) (mc_raiseBound l Γ σ6 μ (q := q) (by omega) (σ6 13 t 0)) cb_S_raiseBound (Or.inr ⟨_, tw_242⟩) tw_243 tw_544 (by omega) (wc_c_Site (by omega)) rfl (by decide) (by decide) rfl rfl (Nat.le_of_ble_eq_true rfl) ⟨Nat.le_refl _, Nat.le_refl _⟩ dW_finishAt_65 ?_
        generalize hs7 : fc_raise σ6 q (σ6 13 t 0) = σ7
        exact wr_vret C hr hlk dW_finishAt_68 rfl (by first | rfl | (subst_vars; simp [fc_finish, fc_fin1, *]; done)) (by first | rfl | (subst_vars; simp [fc_finish, fc_fin1, *]; done))
    ·
      refine wr_aload_n C 1 dW_finishAt_18 rfl rfl ?_
      refine wf_WC_keys C  (Or.inl tw_120) dW_finishAt_19 ?_
      refine wr_iload_n C 0 dW_finishAt_22 rfl rfl ?_
      refine wa_keys C (by omega) dW_finishAt_23 ?_
      refine wr_aload_n C 2 dW_finishAt_24 rfl rfl ?_
      refine wf_Tx_written C (by omega) (Or.inr ⟨_, tw_82⟩) dW_finishAt_25 ?_
      refine wr_iload_n C 0 dW_finishAt_28 rfl rfl ?_
      refine wa_written C (by omega) (by omega) dW_finishAt_29 ?_
      refine wr_aload_n C 2 dW_finishAt_30 rfl rfl ?_
      refine wf_Tx_stamp C (by omega) (Or.inr ⟨_, tw_76⟩) dW_finishAt_31 ?_
      refine wr_callV0 C (As := [.int (σ 16 t (q + 3)), .int (σ 13 t 0)]) (rest := []) (mc_add l Γ σ μ (k := q + 3) (by omega) (σ 16 t (q + 3)) (σ 13 t 0)) cb_K_add (Or.inr ⟨_, tw_278⟩) tw_279 tw_554 (by omega) (wc_c_Key (by omega)) rfl (by decide) (by decide) rfl rfl (Nat.le_of_ble_eq_true rfl) ⟨Nat.le_refl _, Nat.le_refl _⟩ dW_finishAt_34 ?_
      generalize hs8 : fc_add σ (q + 3) (σ 16 t (q + 3)) (σ 13 t 0) = σ8
      refine wr_iinc C (v := nI (q + 3 + 3)) (vs' := [(3, .int (nI (q + 3 + 3))), (0, .ref (Γ.2.2 0)), (1, .ref (Γ.2.2 (35 + t))), (2, .int (nI q))]) 0 dW_finishAt_37 rfl (wc_inc3 (q + 3)) (by decide) rfl ?_
      refine wr_goto C (tgt := 2) dW_finishAt_40 (by decide) ?_
      refine wr_iload_n C 0 dW_finishAt_2 rfl rfl ?_
      refine wr_bipush C (v := nI 9) dW_finishAt_3 (by decide) ?_
      refine wr_icmp_ge C (tgt := 43) dW_finishAt_5 (by decide) (fun h9 => absurd h9 (wc_noge (by omega) (by omega) (by omega))) (fun _ => ?_)
      refine wr_aload_n C 2 dW_finishAt_8 rfl rfl ?_
      refine wf_Tx_locks C (by omega) (Or.inr ⟨_, tw_80⟩) dW_finishAt_9 ?_
      refine wr_iload_n C 0 dW_finishAt_12 rfl rfl ?_
      refine wa_locks C (by omega) (by omega) dW_finishAt_13 ?_
      refine wr_iconst C (v := nI 2) dW_finishAt_14 (by decide) ?_
      refine wr_icmp_ne C (tgt := 37) dW_finishAt_15 (by decide) (fun h10 => ?_) (fun h10 => ?_)
      ·
        refine wr_iinc C (v := nI (q + 3 + 3 + 3)) (vs' := [(3, .int (nI (q + 3 + 3 + 3))), (0, .ref (Γ.2.2 0)), (1, .ref (Γ.2.2 (35 + t))), (2, .int (nI q))]) 0 dW_finishAt_37 rfl (wc_inc3 (q + 3 + 3)) (by decide) rfl ?_
        refine wr_goto C (tgt := 2) dW_finishAt_40 (by decide) ?_
        refine wr_iload_n C 0 dW_finishAt_2 rfl rfl ?_
        refine wr_bipush C (v := nI 9) dW_finishAt_3 (by decide) ?_
        refine wr_icmp_ge C (tgt := 43) dW_finishAt_5 (by decide) (fun _ => ?_) (fun h11 => absurd (wc_yesge (by omega) (by omega) (by omega)) h11)
        refine wr_aload_n C 2 dW_finishAt_43 rfl rfl ?_
        refine wr_iload_n C 3 dW_finishAt_44 rfl rfl ?_
        refine wr_callV0 C (As := [.int (nI q)]) (rest := []) (mc_unlockAt l Γ σ8 μ (t := t) (q := q) (by omega) (by omega)) cb_T_unlockAt (Or.inr ⟨_, tw_282⟩) tw_196 tw_535 (by omega) (wc_c_Tx (by omega)) rfl (by decide) (by decide) rfl rfl (Nat.le_of_ble_eq_true rfl) ⟨Nat.le_refl _, Nat.le_refl _⟩ dW_finishAt_45 ?_
        generalize hs9 : fc_unlock σ8 t q = σ9
        refine wr_aload_n C 2 dW_finishAt_48 rfl rfl ?_
        refine wf_Tx_marks C (by omega) (Or.inr ⟨_, tw_84⟩) dW_finishAt_49 ?_
        refine wr_iload_n C 3 dW_finishAt_52 rfl rfl ?_
        refine wr_iconst C (v := nI 0) dW_finishAt_53 (by decide) ?_
        refine ws_marks C (by omega) (by omega) dW_finishAt_54 ?_
        generalize hs10 : wc_st σ9 17 t q (nI 0) = σ10
        refine wr_aload_n C 1 dW_finishAt_55 rfl rfl ?_
        refine wf_WC_sites C  (Or.inl tw_119) dW_finishAt_56 ?_
        refine wr_iload_n C 3 dW_finishAt_59 rfl rfl ?_
        refine wa_sites C (by omega) dW_finishAt_60 ?_
        refine wr_aload_n C 2 dW_finishAt_61 rfl rfl ?_
        refine wf_Tx_stamp C (by omega) (Or.inr ⟨_, tw_76⟩) dW_finishAt_62 ?_
        refine wr_callV0 C (As := [.int (σ10 13 t 0)]) (rest := []) (mc_raiseBound l Γ σ10 μ (q := q) (by omega) (σ10 13 t 0)) cb_S_raiseBound (Or.inr ⟨_, tw_242⟩) tw_243 tw_544 (by omega) (wc_c_Site (by omega)) rfl (by decide) (by decide) rfl rfl (Nat.le_of_ble_eq_true rfl) ⟨Nat.le_refl _, Nat.le_refl _⟩ dW_finishAt_65 ?_
        generalize hs11 : fc_raise σ10 q (σ10 13 t 0) = σ11
        exact wr_vret C hr hlk dW_finishAt_68 rfl (by first | rfl | (subst_vars; simp [fc_finish, fc_fin1, *]; done)) (by first | rfl | (subst_vars; simp [fc_finish, fc_fin1, *]; done))
      ·
        refine wr_aload_n C 1 dW_finishAt_18 rfl rfl ?_
        refine wf_WC_keys C  (Or.inl tw_120) dW_finishAt_19 ?_
        refine wr_iload_n C 0 dW_finishAt_22 rfl rfl ?_
        refine wa_keys C (by omega) dW_finishAt_23 ?_
        refine wr_aload_n C 2 dW_finishAt_24 rfl rfl ?_
        refine wf_Tx_written C (by omega) (Or.inr ⟨_, tw_82⟩) dW_finishAt_25 ?_
        refine wr_iload_n C 0 dW_finishAt_28 rfl rfl ?_
        refine wa_written C (by omega) (by omega) dW_finishAt_29 ?_
        refine wr_aload_n C 2 dW_finishAt_30 rfl rfl ?_
        refine wf_Tx_stamp C (by omega) (Or.inr ⟨_, tw_76⟩) dW_finishAt_31 ?_
        refine wr_callV0 C (As := [.int (σ8 16 t (q + 3 + 3)), .int (σ8 13 t 0)]) (rest := []) (mc_add l Γ σ8 μ (k := q + 3 + 3) (by omega) (σ8 16 t (q + 3 + 3)) (σ8 13 t 0)) cb_K_add (Or.inr ⟨_, tw_278⟩) tw_279 tw_554 (by omega) (wc_c_Key (by omega)) rfl (by decide) (by decide) rfl rfl (Nat.le_of_ble_eq_true rfl) ⟨Nat.le_refl _, Nat.le_refl _⟩ dW_finishAt_34 ?_
        generalize hs12 : fc_add σ8 (q + 3 + 3) (σ8 16 t (q + 3 + 3)) (σ8 13 t 0) = σ12
        refine wr_iinc C (v := nI (q + 3 + 3 + 3)) (vs' := [(3, .int (nI (q + 3 + 3 + 3))), (0, .ref (Γ.2.2 0)), (1, .ref (Γ.2.2 (35 + t))), (2, .int (nI q))]) 0 dW_finishAt_37 rfl (wc_inc3 (q + 3 + 3)) (by decide) rfl ?_
        refine wr_goto C (tgt := 2) dW_finishAt_40 (by decide) ?_
        refine wr_iload_n C 0 dW_finishAt_2 rfl rfl ?_
        refine wr_bipush C (v := nI 9) dW_finishAt_3 (by decide) ?_
        refine wr_icmp_ge C (tgt := 43) dW_finishAt_5 (by decide) (fun _ => ?_) (fun h12 => absurd (wc_yesge (by omega) (by omega) (by omega)) h12)
        refine wr_aload_n C 2 dW_finishAt_43 rfl rfl ?_
        refine wr_iload_n C 3 dW_finishAt_44 rfl rfl ?_
        refine wr_callV0 C (As := [.int (nI q)]) (rest := []) (mc_unlockAt l Γ σ12 μ (t := t) (q := q) (by omega) (by omega)) cb_T_unlockAt (Or.inr ⟨_, tw_282⟩) tw_196 tw_535 (by omega) (wc_c_Tx (by omega)) rfl (by decide) (by decide) rfl rfl (Nat.le_of_ble_eq_true rfl) ⟨Nat.le_refl _, Nat.le_refl _⟩ dW_finishAt_45 ?_
        generalize hs13 : fc_unlock σ12 t q = σ13
        refine wr_aload_n C 2 dW_finishAt_48 rfl rfl ?_
        refine wf_Tx_marks C (by omega) (Or.inr ⟨_, tw_84⟩) dW_finishAt_49 ?_
        refine wr_iload_n C 3 dW_finishAt_52 rfl rfl ?_
        refine wr_iconst C (v := nI 0) dW_finishAt_53 (by decide) ?_
        refine ws_marks C (by omega) (by omega) dW_finishAt_54 ?_
        generalize hs14 : wc_st σ13 17 t q (nI 0) = σ14
        refine wr_aload_n C 1 dW_finishAt_55 rfl rfl ?_
        refine wf_WC_sites C  (Or.inl tw_119) dW_finishAt_56 ?_
        refine wr_iload_n C 3 dW_finishAt_59 rfl rfl ?_
        refine wa_sites C (by omega) dW_finishAt_60 ?_
        refine wr_aload_n C 2 dW_finishAt_61 rfl rfl ?_
        refine wf_Tx_stamp C (by omega) (Or.inr ⟨_, tw_76⟩) dW_finishAt_62 ?_
        refine wr_callV0 C (As := [.int (σ14 13 t 0)]) (rest := []) (mc_raiseBound l Γ σ14 μ (q := q) (by omega) (σ14 13 t 0)) cb_S_raiseBound (Or.inr ⟨_, tw_242⟩) tw_243 tw_544 (by omega) (wc_c_Site (by omega)) rfl (by decide) (by decide) rfl rfl (Nat.le_of_ble_eq_true rfl) ⟨Nat.le_refl _, Nat.le_refl _⟩ dW_finishAt_65 ?_
        generalize hs15 : fc_raise σ14 q (σ14 13 t 0) = σ15
        exact wr_vret C hr hlk dW_finishAt_68 rfl (by first | rfl | (subst_vars; simp [fc_finish, fc_fin1, *]; done)) (by first | rfl | (subst_vars; simp [fc_finish, fc_fin1, *]; done))
  ·
    refine wr_aload_n C 1 dW_finishAt_18 rfl rfl ?_
    refine wf_WC_keys C  (Or.inl tw_120) dW_finishAt_19 ?_
    refine wr_iload_n C 0 dW_finishAt_22 rfl rfl ?_
    refine wa_keys C (by omega) dW_finishAt_23 ?_
    refine wr_aload_n C 2 dW_finishAt_24 rfl rfl ?_
    refine wf_Tx_written C (by omega) (Or.inr ⟨_, tw_82⟩) dW_finishAt_25 ?_
    refine wr_iload_n C 0 dW_finishAt_28 rfl rfl ?_
    refine wa_written C (by omega) (by omega) dW_finishAt_29 ?_
    refine wr_aload_n C 2 dW_finishAt_30 rfl rfl ?_
    refine wf_Tx_stamp C (by omega) (Or.inr ⟨_, tw_76⟩) dW_finishAt_31 ?_
    refine wr_callV0 C (As := [.int (σ 16 t q), .int (σ 13 t 0)]) (rest := []) (mc_add l Γ σ μ (k := q) (by omega) (σ 16 t q) (σ 13 t 0)) cb_K_add (Or.inr ⟨_, tw_278⟩) tw_279 tw_554 (by omega) (wc_c_Key (by omega)) rfl (by decide) (by decide) rfl rfl (Nat.le_of_ble_eq_true rfl) ⟨Nat.le_refl _, Nat.le_refl _⟩ dW_finishAt_34 ?_
    generalize hs16 : fc_add σ q (σ 16 t q) (σ 13 t 0) = σ16
    refine wr_iinc C (v := nI (q + 3)) (vs' := [(3, .int (nI (q + 3))), (0, .ref (Γ.2.2 0)), (1, .ref (Γ.2.2 (35 + t))), (2, .int (nI q))]) 0 dW_finishAt_37 rfl (wc_inc3 q) (by decide) rfl ?_
    refine wr_goto C (tgt := 2) dW_finishAt_40 (by decide) ?_
    refine wr_iload_n C 0 dW_finishAt_2 rfl rfl ?_
    refine wr_bipush C (v := nI 9) dW_finishAt_3 (by decide) ?_
    refine wr_icmp_ge C (tgt := 43) dW_finishAt_5 (by decide) (fun h13 => absurd h13 (wc_noge (by omega) (by omega) (by omega))) (fun _ => ?_)
    refine wr_aload_n C 2 dW_finishAt_8 rfl rfl ?_
    refine wf_Tx_locks C (by omega) (Or.inr ⟨_, tw_80⟩) dW_finishAt_9 ?_
    refine wr_iload_n C 0 dW_finishAt_12 rfl rfl ?_
    refine wa_locks C (by omega) (by omega) dW_finishAt_13 ?_
    refine wr_iconst C (v := nI 2) dW_finishAt_14 (by decide) ?_
    refine wr_icmp_ne C (tgt := 37) dW_finishAt_15 (by decide) (fun h14 => ?_) (fun h14 => ?_)
    ·
      refine wr_iinc C (v := nI (q + 3 + 3)) (vs' := [(3, .int (nI (q + 3 + 3))), (0, .ref (Γ.2.2 0)), (1, .ref (Γ.2.2 (35 + t))), (2, .int (nI q))]) 0 dW_finishAt_37 rfl (wc_inc3 (q + 3)) (by decide) rfl ?_
      refine wr_goto C (tgt := 2) dW_finishAt_40 (by decide) ?_
      refine wr_iload_n C 0 dW_finishAt_2 rfl rfl ?_
      refine wr_bipush C (v := nI 9) dW_finishAt_3 (by decide) ?_
      refine wr_icmp_ge C (tgt := 43) dW_finishAt_5 (by decide) (fun h15 => absurd h15 (wc_noge (by omega) (by omega) (by omega))) (fun _ => ?_)
      refine wr_aload_n C 2 dW_finishAt_8 rfl rfl ?_
      refine wf_Tx_locks C (by omega) (Or.inr ⟨_, tw_80⟩) dW_finishAt_9 ?_
      refine wr_iload_n C 0 dW_finishAt_12 rfl rfl ?_
      refine wa_locks C (by omega) (by omega) dW_finishAt_13 ?_
      refine wr_iconst C (v := nI 2) dW_finishAt_14 (by decide) ?_
      refine wr_icmp_ne C (tgt := 37) dW_finishAt_15 (by decide) (fun h16 => ?_) (fun h16 => ?_)
      ·
        refine wr_iinc C (v := nI (q + 3 + 3 + 3)) (vs' := [(3, .int (nI (q + 3 + 3 + 3))), (0, .ref (Γ.2.2 0)), (1, .ref (Γ.2.2 (35 + t))), (2, .int (nI q))]) 0 dW_finishAt_37 rfl (wc_inc3 (q + 3 + 3)) (by decide) rfl ?_
        refine wr_goto C (tgt := 2) dW_finishAt_40 (by decide) ?_
        refine wr_iload_n C 0 dW_finishAt_2 rfl rfl ?_
        refine wr_bipush C (v := nI 9) dW_finishAt_3 (by decide) ?_
        refine wr_icmp_ge C (tgt := 43) dW_finishAt_5 (by decide) (fun _ => ?_) (fun h17 => absurd (wc_yesge (by omega) (by omega) (by omega)) h17)
        refine wr_aload_n C 2 dW_finishAt_43 rfl rfl ?_
        refine wr_iload_n C 3 dW_finishAt_44 rfl rfl ?_
        refine wr_callV0 C (As := [.int (nI q)]) (rest := []) (mc_unlockAt l Γ σ16 μ (t := t) (q := q) (by omega) (by omega)) cb_T_unlockAt (Or.inr ⟨_, tw_282⟩) tw_196 tw_535 (by omega) (wc_c_Tx (by omega)) rfl (by decide) (by decide) rfl rfl (Nat.le_of_ble_eq_true rfl) ⟨Nat.le_refl _, Nat.le_refl _⟩ dW_finishAt_45 ?_
        generalize hs17 : fc_unlock σ16 t q = σ17
        refine wr_aload_n C 2 dW_finishAt_48 rfl rfl ?_
        refine wf_Tx_marks C (by omega) (Or.inr ⟨_, tw_84⟩) dW_finishAt_49 ?_
        refine wr_iload_n C 3 dW_finishAt_52 rfl rfl ?_
        refine wr_iconst C (v := nI 0) dW_finishAt_53 (by decide) ?_
        refine ws_marks C (by omega) (by omega) dW_finishAt_54 ?_
        generalize hs18 : wc_st σ17 17 t q (nI 0) = σ18
        refine wr_aload_n C 1 dW_finishAt_55 rfl rfl ?_
        refine wf_WC_sites C  (Or.inl tw_119) dW_finishAt_56 ?_
        refine wr_iload_n C 3 dW_finishAt_59 rfl rfl ?_
        refine wa_sites C (by omega) dW_finishAt_60 ?_
        refine wr_aload_n C 2 dW_finishAt_61 rfl rfl ?_
        refine wf_Tx_stamp C (by omega) (Or.inr ⟨_, tw_76⟩) dW_finishAt_62 ?_
        refine wr_callV0 C (As := [.int (σ18 13 t 0)]) (rest := []) (mc_raiseBound l Γ σ18 μ (q := q) (by omega) (σ18 13 t 0)) cb_S_raiseBound (Or.inr ⟨_, tw_242⟩) tw_243 tw_544 (by omega) (wc_c_Site (by omega)) rfl (by decide) (by decide) rfl rfl (Nat.le_of_ble_eq_true rfl) ⟨Nat.le_refl _, Nat.le_refl _⟩ dW_finishAt_65 ?_
        generalize hs19 : fc_raise σ18 q (σ18 13 t 0) = σ19
        exact wr_vret C hr hlk dW_finishAt_68 rfl (by first | rfl | (subst_vars; simp [fc_finish, fc_fin1, *]; done)) (by first | rfl | (subst_vars; simp [fc_finish, fc_fin1, *]; done))
      ·
        refine wr_aload_n C 1 dW_finishAt_18 rfl rfl ?_
        refine wf_WC_keys C  (Or.inl tw_120) dW_finishAt_19 ?_
        refine wr_iload_n C 0 dW_finishAt_22 rfl rfl ?_
        refine wa_keys C (by omega) dW_finishAt_23 ?_
        refine wr_aload_n C 2 dW_finishAt_24 rfl rfl ?_
        refine wf_Tx_written C (by omega) (Or.inr ⟨_, tw_82⟩) dW_finishAt_25 ?_
        refine wr_iload_n C 0 dW_finishAt_28 rfl rfl ?_
        refine wa_written C (by omega) (by omega) dW_finishAt_29 ?_
        refine wr_aload_n C 2 dW_finishAt_30 rfl rfl ?_
        refine wf_Tx_stamp C (by omega) (Or.inr ⟨_, tw_76⟩) dW_finishAt_31 ?_
        refine wr_callV0 C (As := [.int (σ16 16 t (q + 3 + 3)), .int (σ16 13 t 0)]) (rest := []) (mc_add l Γ σ16 μ (k := q + 3 + 3) (by omega) (σ16 16 t (q + 3 + 3)) (σ16 13 t 0)) cb_K_add (Or.inr ⟨_, tw_278⟩) tw_279 tw_554 (by omega) (wc_c_Key (by omega)) rfl (by decide) (by decide) rfl rfl (Nat.le_of_ble_eq_true rfl) ⟨Nat.le_refl _, Nat.le_refl _⟩ dW_finishAt_34 ?_
        generalize hs20 : fc_add σ16 (q + 3 + 3) (σ16 16 t (q + 3 + 3)) (σ16 13 t 0) = σ20
        refine wr_iinc C (v := nI (q + 3 + 3 + 3)) (vs' := [(3, .int (nI (q + 3 + 3 + 3))), (0, .ref (Γ.2.2 0)), (1, .ref (Γ.2.2 (35 + t))), (2, .int (nI q))]) 0 dW_finishAt_37 rfl (wc_inc3 (q + 3 + 3)) (by decide) rfl ?_
        refine wr_goto C (tgt := 2) dW_finishAt_40 (by decide) ?_
        refine wr_iload_n C 0 dW_finishAt_2 rfl rfl ?_
        refine wr_bipush C (v := nI 9) dW_finishAt_3 (by decide) ?_
        refine wr_icmp_ge C (tgt := 43) dW_finishAt_5 (by decide) (fun _ => ?_) (fun h18 => absurd (wc_yesge (by omega) (by omega) (by omega)) h18)
        refine wr_aload_n C 2 dW_finishAt_43 rfl rfl ?_
        refine wr_iload_n C 3 dW_finishAt_44 rfl rfl ?_
        refine wr_callV0 C (As := [.int (nI q)]) (rest := []) (mc_unlockAt l Γ σ20 μ (t := t) (q := q) (by omega) (by omega)) cb_T_unlockAt (Or.inr ⟨_, tw_282⟩) tw_196 tw_535 (by omega) (wc_c_Tx (by omega)) rfl (by decide) (by decide) rfl rfl (Nat.le_of_ble_eq_true rfl) ⟨Nat.le_refl _, Nat.le_refl _⟩ dW_finishAt_45 ?_
        generalize hs21 : fc_unlock σ20 t q = σ21
        refine wr_aload_n C 2 dW_finishAt_48 rfl rfl ?_
        refine wf_Tx_marks C (by omega) (Or.inr ⟨_, tw_84⟩) dW_finishAt_49 ?_
        refine wr_iload_n C 3 dW_finishAt_52 rfl rfl ?_
        refine wr_iconst C (v := nI 0) dW_finishAt_53 (by decide) ?_
        refine ws_marks C (by omega) (by omega) dW_finishAt_54 ?_
        generalize hs22 : wc_st σ21 17 t q (nI 0) = σ22
        refine wr_aload_n C 1 dW_finishAt_55 rfl rfl ?_
        refine wf_WC_sites C  (Or.inl tw_119) dW_finishAt_56 ?_
        refine wr_iload_n C 3 dW_finishAt_59 rfl rfl ?_
        refine wa_sites C (by omega) dW_finishAt_60 ?_
        refine wr_aload_n C 2 dW_finishAt_61 rfl rfl ?_
        refine wf_Tx_stamp C (by omega) (Or.inr ⟨_, tw_76⟩) dW_finishAt_62 ?_
        refine wr_callV0 C (As := [.int (σ22 13 t 0)]) (rest := []) (mc_raiseBound l Γ σ22 μ (q := q) (by omega) (σ22 13 t 0)) cb_S_raiseBound (Or.inr ⟨_, tw_242⟩) tw_243 tw_544 (by omega) (wc_c_Site (by omega)) rfl (by decide) (by decide) rfl rfl (Nat.le_of_ble_eq_true rfl) ⟨Nat.le_refl _, Nat.le_refl _⟩ dW_finishAt_65 ?_
        generalize hs23 : fc_raise σ22 q (σ22 13 t 0) = σ23
        exact wr_vret C hr hlk dW_finishAt_68 rfl (by first | rfl | (subst_vars; simp [fc_finish, fc_fin1, *]; done)) (by first | rfl | (subst_vars; simp [fc_finish, fc_fin1, *]; done))
    ·
      refine wr_aload_n C 1 dW_finishAt_18 rfl rfl ?_
      refine wf_WC_keys C  (Or.inl tw_120) dW_finishAt_19 ?_
      refine wr_iload_n C 0 dW_finishAt_22 rfl rfl ?_
      refine wa_keys C (by omega) dW_finishAt_23 ?_
      refine wr_aload_n C 2 dW_finishAt_24 rfl rfl ?_
      refine wf_Tx_written C (by omega) (Or.inr ⟨_, tw_82⟩) dW_finishAt_25 ?_
      refine wr_iload_n C 0 dW_finishAt_28 rfl rfl ?_
      refine wa_written C (by omega) (by omega) dW_finishAt_29 ?_
      refine wr_aload_n C 2 dW_finishAt_30 rfl rfl ?_
      refine wf_Tx_stamp C (by omega) (Or.inr ⟨_, tw_76⟩) dW_finishAt_31 ?_
      refine wr_callV0 C (As := [.int (σ16 16 t (q + 3)), .int (σ16 13 t 0)]) (rest := []) (mc_add l Γ σ16 μ (k := q + 3) (by omega) (σ16 16 t (q + 3)) (σ16 13 t 0)) cb_K_add (Or.inr ⟨_, tw_278⟩) tw_279 tw_554 (by omega) (wc_c_Key (by omega)) rfl (by decide) (by decide) rfl rfl (Nat.le_of_ble_eq_true rfl) ⟨Nat.le_refl _, Nat.le_refl _⟩ dW_finishAt_34 ?_
      generalize hs24 : fc_add σ16 (q + 3) (σ16 16 t (q + 3)) (σ16 13 t 0) = σ24
      refine wr_iinc C (v := nI (q + 3 + 3)) (vs' := [(3, .int (nI (q + 3 + 3))), (0, .ref (Γ.2.2 0)), (1, .ref (Γ.2.2 (35 + t))), (2, .int (nI q))]) 0 dW_finishAt_37 rfl (wc_inc3 (q + 3)) (by decide) rfl ?_
      refine wr_goto C (tgt := 2) dW_finishAt_40 (by decide) ?_
      refine wr_iload_n C 0 dW_finishAt_2 rfl rfl ?_
      refine wr_bipush C (v := nI 9) dW_finishAt_3 (by decide) ?_
      refine wr_icmp_ge C (tgt := 43) dW_finishAt_5 (by decide) (fun h19 => absurd h19 (wc_noge (by omega) (by omega) (by omega))) (fun _ => ?_)
      refine wr_aload_n C 2 dW_finishAt_8 rfl rfl ?_
      refine wf_Tx_locks C (by omega) (Or.inr ⟨_, tw_80⟩) dW_finishAt_9 ?_
      refine wr_iload_n C 0 dW_finishAt_12 rfl rfl ?_
      refine wa_locks C (by omega) (by omega) dW_finishAt_13 ?_
      refine wr_iconst C (v := nI 2) dW_finishAt_14 (by decide) ?_
      refine wr_icmp_ne C (tgt := 37) dW_finishAt_15 (by decide) (fun h20 => ?_) (fun h20 => ?_)
      ·
        refine wr_iinc C (v := nI (q + 3 + 3 + 3)) (vs' := [(3, .int (nI (q + 3 + 3 + 3))), (0, .ref (Γ.2.2 0)), (1, .ref (Γ.2.2 (35 + t))), (2, .int (nI q))]) 0 dW_finishAt_37 rfl (wc_inc3 (q + 3 + 3)) (by decide) rfl ?_
        refine wr_goto C (tgt := 2) dW_finishAt_40 (by decide) ?_
        refine wr_iload_n C 0 dW_finishAt_2 rfl rfl ?_
        refine wr_bipush C (v := nI 9) dW_finishAt_3 (by decide) ?_
        refine wr_icmp_ge C (tgt := 43) dW_finishAt_5 (by decide) (fun _ => ?_) (fun h21 => absurd (wc_yesge (by omega) (by omega) (by omega)) h21)
        refine wr_aload_n C 2 dW_finishAt_43 rfl rfl ?_
        refine wr_iload_n C 3 dW_finishAt_44 rfl rfl ?_
        refine wr_callV0 C (As := [.int (nI q)]) (rest := []) (mc_unlockAt l Γ σ24 μ (t := t) (q := q) (by omega) (by omega)) cb_T_unlockAt (Or.inr ⟨_, tw_282⟩) tw_196 tw_535 (by omega) (wc_c_Tx (by omega)) rfl (by decide) (by decide) rfl rfl (Nat.le_of_ble_eq_true rfl) ⟨Nat.le_refl _, Nat.le_refl _⟩ dW_finishAt_45 ?_
        generalize hs25 : fc_unlock σ24 t q = σ25
        refine wr_aload_n C 2 dW_finishAt_48 rfl rfl ?_
        refine wf_Tx_marks C (by omega) (Or.inr ⟨_, tw_84⟩) dW_finishAt_49 ?_
        refine wr_iload_n C 3 dW_finishAt_52 rfl rfl ?_
        refine wr_iconst C (v := nI 0) dW_finishAt_53 (by decide) ?_
        refine ws_marks C (by omega) (by omega) dW_finishAt_54 ?_
        generalize hs26 : wc_st σ25 17 t q (nI 0) = σ26
        refine wr_aload_n C 1 dW_finishAt_55 rfl rfl ?_
        refine wf_WC_sites C  (Or.inl tw_119) dW_finishAt_56 ?_
        refine wr_iload_n C 3 dW_finishAt_59 rfl rfl ?_
        refine wa_sites C (by omega) dW_finishAt_60 ?_
        refine wr_aload_n C 2 dW_finishAt_61 rfl rfl ?_
        refine wf_Tx_stamp C (by omega) (Or.inr ⟨_, tw_76⟩) dW_finishAt_62 ?_
        refine wr_callV0 C (As := [.int (σ26 13 t 0)]) (rest := []) (mc_raiseBound l Γ σ26 μ (q := q) (by omega) (σ26 13 t 0)) cb_S_raiseBound (Or.inr ⟨_, tw_242⟩) tw_243 tw_544 (by omega) (wc_c_Site (by omega)) rfl (by decide) (by decide) rfl rfl (Nat.le_of_ble_eq_true rfl) ⟨Nat.le_refl _, Nat.le_refl _⟩ dW_finishAt_65 ?_
        generalize hs27 : fc_raise σ26 q (σ26 13 t 0) = σ27
        exact wr_vret C hr hlk dW_finishAt_68 rfl (by first | rfl | (subst_vars; simp [fc_finish, fc_fin1, *]; done)) (by first | rfl | (subst_vars; simp [fc_finish, fc_fin1, *]; done))
      ·
        refine wr_aload_n C 1 dW_finishAt_18 rfl rfl ?_
        refine wf_WC_keys C  (Or.inl tw_120) dW_finishAt_19 ?_
        refine wr_iload_n C 0 dW_finishAt_22 rfl rfl ?_
        refine wa_keys C (by omega) dW_finishAt_23 ?_
        refine wr_aload_n C 2 dW_finishAt_24 rfl rfl ?_
        refine wf_Tx_written C (by omega) (Or.inr ⟨_, tw_82⟩) dW_finishAt_25 ?_
        refine wr_iload_n C 0 dW_finishAt_28 rfl rfl ?_
        refine wa_written C (by omega) (by omega) dW_finishAt_29 ?_
        refine wr_aload_n C 2 dW_finishAt_30 rfl rfl ?_
        refine wf_Tx_stamp C (by omega) (Or.inr ⟨_, tw_76⟩) dW_finishAt_31 ?_
        refine wr_callV0 C (As := [.int (σ24 16 t (q + 3 + 3)), .int (σ24 13 t 0)]) (rest := []) (mc_add l Γ σ24 μ (k := q + 3 + 3) (by omega) (σ24 16 t (q + 3 + 3)) (σ24 13 t 0)) cb_K_add (Or.inr ⟨_, tw_278⟩) tw_279 tw_554 (by omega) (wc_c_Key (by omega)) rfl (by decide) (by decide) rfl rfl (Nat.le_of_ble_eq_true rfl) ⟨Nat.le_refl _, Nat.le_refl _⟩ dW_finishAt_34 ?_
        generalize hs28 : fc_add σ24 (q + 3 + 3) (σ24 16 t (q + 3 + 3)) (σ24 13 t 0) = σ28
        refine wr_iinc C (v := nI (q + 3 + 3 + 3)) (vs' := [(3, .int (nI (q + 3 + 3 + 3))), (0, .ref (Γ.2.2 0)), (1, .ref (Γ.2.2 (35 + t))), (2, .int (nI q))]) 0 dW_finishAt_37 rfl (wc_inc3 (q + 3 + 3)) (by decide) rfl ?_
        refine wr_goto C (tgt := 2) dW_finishAt_40 (by decide) ?_
        refine wr_iload_n C 0 dW_finishAt_2 rfl rfl ?_
        refine wr_bipush C (v := nI 9) dW_finishAt_3 (by decide) ?_
        refine wr_icmp_ge C (tgt := 43) dW_finishAt_5 (by decide) (fun _ => ?_) (fun h22 => absurd (wc_yesge (by omega) (by omega) (by omega)) h22)
        refine wr_aload_n C 2 dW_finishAt_43 rfl rfl ?_
        refine wr_iload_n C 3 dW_finishAt_44 rfl rfl ?_
        refine wr_callV0 C (As := [.int (nI q)]) (rest := []) (mc_unlockAt l Γ σ28 μ (t := t) (q := q) (by omega) (by omega)) cb_T_unlockAt (Or.inr ⟨_, tw_282⟩) tw_196 tw_535 (by omega) (wc_c_Tx (by omega)) rfl (by decide) (by decide) rfl rfl (Nat.le_of_ble_eq_true rfl) ⟨Nat.le_refl _, Nat.le_refl _⟩ dW_finishAt_45 ?_
        generalize hs29 : fc_unlock σ28 t q = σ29
        refine wr_aload_n C 2 dW_finishAt_48 rfl rfl ?_
        refine wf_Tx_marks C (by omega) (Or.inr ⟨_, tw_84⟩) dW_finishAt_49 ?_
        refine wr_iload_n C 3 dW_finishAt_52 rfl rfl ?_
        refine wr_iconst C (v := nI 0) dW_finishAt_53 (by decide) ?_
        refine ws_marks C (by omega) (by omega) dW_finishAt_54 ?_
        generalize hs30 : wc_st σ29 17 t q (nI 0) = σ30
        refine wr_aload_n C 1 dW_finishAt_55 rfl rfl ?_
        refine wf_WC_sites C  (Or.inl tw_119) dW_finishAt_56 ?_
        refine wr_iload_n C 3 dW_finishAt_59 rfl rfl ?_
        refine wa_sites C (by omega) dW_finishAt_60 ?_
        refine wr_aload_n C 2 dW_finishAt_61 rfl rfl ?_
        refine wf_Tx_stamp C (by omega) (Or.inr ⟨_, tw_76⟩) dW_finishAt_62 ?_
        refine wr_callV0 C (As := [.int (σ30 13 t 0)]) (rest := []) (mc_raiseBound l Γ σ30 μ (q := q) (by omega) (σ30 13 t 0)) cb_S_raiseBound (Or.inr ⟨_, tw_242⟩) tw_243 tw_544 (by omega) (wc_c_Site (by omega)) rfl (by decide) (by decide) rfl rfl (Nat.le_of_ble_eq_true rfl) ⟨Nat.le_refl _, Nat.le_refl _⟩ dW_finishAt_65 ?_
        generalize hs31 : fc_raise σ30 q (σ30 13 t 0) = σ31
        exact wr_vret C hr hlk dW_finishAt_68 rfl (by first | rfl | (subst_vars; simp [fc_finish, fc_fin1, *]; done)) (by first | rfl | (subst_vars; simp [fc_finish, fc_fin1, *]; done))
set_option maxRecDepth 100000 in
set_option maxHeartbeats 4000000 in
theorem mc_deal (l : Launch) (Γ : wc_G) (σ μ : wc_St) {t q c : Nat} (ht : t < 5) (hq : q < 3) (hc3 : c < 3) (hc : σ 10 t 0 = nI c) : wc_M l yW_dealWith cW_dealWith 3 none 4 Γ [.ref (Γ.2.2 0), .ref (Γ.2.2 (55 + (t * 3 + q)))] σ μ none (fc_deal σ t q c) μ := by
  refine wc_enter "WaitedCommits" (by decide) rfl (Nat.le_of_ble_eq_true rfl) ?_
  intro P0 E0 S0 M0 A0 B0 T0 K0 C hr hlk
  refine wr_vs (vs' := [(0, .ref (Γ.2.2 0)), (1, .ref (Γ.2.2 (55 + (t * 3 + q))))]) rfl ?_
  refine wr_aload_n C 1 dW_dealWith_0 rfl rfl ?_
  refine wf_Msg_kind C (by omega) (Or.inr ⟨_, tw_105⟩) dW_dealWith_1 ?_
  refine wr_istore_n C (vs' := [(2, .int (σ 18 (t * 3 + q) 0)), (0, .ref (Γ.2.2 0)), (1, .ref (Γ.2.2 (55 + (t * 3 + q))))]) dW_dealWith_4 rfl (by decide) rfl ?_
  refine wr_aload_n C 2 dW_dealWith_5 rfl rfl ?_
  refine wr_iconst C (v := nI 0) dW_dealWith_6 (by decide) ?_
  refine wp_Msg_kind C (by omega) (Or.inr ⟨_, tw_105⟩) dW_dealWith_7 ?_
  generalize hs1 : wc_st σ 18 (t * 3 + q) 0 (nI 0) = σ1
  refine wr_aload_n C 1 dW_dealWith_10 rfl rfl ?_
  refine wr_dup C dW_dealWith_11 rfl ?_
  refine wf_WC_underWay C  (Or.inl tw_126) dW_dealWith_12 ?_
  refine wr_iconst C (v := nI 1) dW_dealWith_15 (by decide) ?_
  refine wr_isub C (z := (σ1 26 0 0) - (nI 1)) dW_dealWith_16 rfl ?_
  refine wp_WC_underWay C  (Or.inl tw_126) dW_dealWith_17 ?_
  generalize hs2 : wc_st σ1 26 0 0 ((σ1 26 0 0) - (nI 1)) = σ2
  refine wr_iload_n C 0 dW_dealWith_20 rfl rfl ?_
  refine wr_iconst C (v := nI 1) dW_dealWith_21 (by decide) ?_
  refine wr_icmp_ne C (tgt := 40) dW_dealWith_22 (by decide) (fun h1 => ?_) (fun h1 => ?_)
  ·
    refine wr_iload_n C 0 dW_dealWith_40 rfl rfl ?_
    refine wr_iconst C (v := nI 2) dW_dealWith_41 (by decide) ?_
    refine wr_icmp_ne C (tgt := 61) dW_dealWith_42 (by decide) (fun h2 => ?_) (fun h2 => ?_)
    ·
      refine wr_aload_n C 1 dW_dealWith_61 rfl rfl ?_
      refine wr_aload_n C 1 dW_dealWith_62 rfl rfl ?_
      refine wf_WC_transactions C  (Or.inl tw_121) dW_dealWith_63 ?_
      refine wr_aload_n C 2 dW_dealWith_66 rfl rfl ?_
      refine wf_Msg_transaction C (by omega) (Or.inr ⟨_, tw_101⟩) dW_dealWith_67 ?_
      refine wr_top (show nI ((t * 3 + q) / 3) = nI t by rw [show (t * 3 + q) / 3 = t by omega]) ?_
      refine wa_txs C (by omega) dW_dealWith_70 ?_
      refine wr_aload_n C 2 dW_dealWith_71 rfl rfl ?_
      refine wf_Msg_participant C (by omega) (Or.inr ⟨_, tw_103⟩) dW_dealWith_72 ?_
      refine wr_top (show nI ((t * 3 + q) % 3) = nI q by rw [show (t * 3 + q) % 3 = q by omega]) ?_
      refine wr_callV0 C (As := [.ref (Γ.2.2 (35 + t)), .int (nI q)]) (rest := []) (mc_finishAt l Γ σ2 μ (t := t) (q := q) (by omega) (by omega)) cb_W_finishAt (Or.inl tw_275) tw_276 tw_553 (by omega) (wc_c_WC) rfl (by decide) (by decide) rfl rfl (Nat.le_of_ble_eq_true rfl) ⟨Nat.le_refl _, Nat.le_refl _⟩ dW_dealWith_75 ?_
      generalize hs3 : fc_finish σ2 t q = σ3
      exact wr_vret C hr hlk dW_dealWith_78 rfl (by first | rfl | (subst_vars; simp [fc_deal, fc_deal0, wc_nIe, *]; done)) (by first | rfl | (subst_vars; simp [fc_deal, fc_deal0, wc_nIe, *]; done))
    ·
      refine wr_aload_n C 1 dW_dealWith_45 rfl rfl ?_
      refine wr_aload_n C 1 dW_dealWith_46 rfl rfl ?_
      refine wf_WC_transactions C  (Or.inl tw_121) dW_dealWith_47 ?_
      refine wr_aload_n C 2 dW_dealWith_50 rfl rfl ?_
      refine wf_Msg_transaction C (by omega) (Or.inr ⟨_, tw_101⟩) dW_dealWith_51 ?_
      refine wr_top (show nI ((t * 3 + q) / 3) = nI t by rw [show (t * 3 + q) / 3 = t by omega]) ?_
      refine wa_txs C (by omega) dW_dealWith_54 ?_
      refine wr_callV0 C (As := [.ref (Γ.2.2 (35 + t))]) (rest := []) (mc_takePrepared l Γ σ2 μ (t := t) (c := c) (by omega) (by omega) (by subst_vars; first | exact hc | (simpa [wc_st, fc_sto_crd, fc_finish_crd, fc_send_crd] using hc))) cb_W_takePrepared (Or.inl tw_272) tw_273 tw_552 (by omega) (wc_c_WC) rfl (by decide) (by decide) rfl rfl (Nat.le_of_ble_eq_true rfl) ⟨Nat.le_refl _, Nat.le_refl _⟩ dW_dealWith_55 ?_
      generalize hs4 : fc_takePrepared σ2 t c = σ4
      refine wr_goto C (tgt := 78) dW_dealWith_58 (by decide) ?_
      exact wr_vret C hr hlk dW_dealWith_78 rfl (by first | rfl | (subst_vars; simp [fc_deal, fc_deal0, wc_nIe, *]; done)) (by first | rfl | (subst_vars; simp [fc_deal, fc_deal0, wc_nIe, *]; done))
  ·
    refine wr_aload_n C 1 dW_dealWith_25 rfl rfl ?_
    refine wr_aload_n C 2 dW_dealWith_26 rfl rfl ?_
    refine wf_Msg_transaction C (by omega) (Or.inr ⟨_, tw_101⟩) dW_dealWith_27 ?_
    refine wr_top (show nI ((t * 3 + q) / 3) = nI t by rw [show (t * 3 + q) / 3 = t by omega]) ?_
    refine wr_aload_n C 2 dW_dealWith_30 rfl rfl ?_
    refine wf_Msg_participant C (by omega) (Or.inr ⟨_, tw_103⟩) dW_dealWith_31 ?_
    refine wr_top (show nI ((t * 3 + q) % 3) = nI q by rw [show (t * 3 + q) % 3 = q by omega]) ?_
    refine wr_callV0 C (As := [.int (nI t), .int (nI q)]) (rest := []) (mc_takePrepare l Γ σ2 μ (t := t) (q := q) (c := c) (by omega) (by omega) (by omega) (by subst_vars; first | exact hc | (simpa [wc_st, fc_sto_crd, fc_finish_crd, fc_send_crd] using hc))) cb_W_takePrepare (Or.inl tw_269) tw_270 tw_551 (by omega) (wc_c_WC) rfl (by decide) (by decide) rfl rfl (Nat.le_of_ble_eq_true rfl) ⟨Nat.le_refl _, Nat.le_refl _⟩ dW_dealWith_34 ?_
    generalize hs5 : fc_takePrepare σ2 t q c = σ5
    refine wr_goto C (tgt := 78) dW_dealWith_37 (by decide) ?_
    exact wr_vret C hr hlk dW_dealWith_78 rfl (by first | rfl | (subst_vars; simp [fc_deal, fc_deal0, wc_nIe, *]; done)) (by first | rfl | (subst_vars; simp [fc_deal, fc_deal0, wc_nIe, *]; done))
set_option maxRecDepth 100000 in
set_option maxHeartbeats 4000000 in
theorem mc_mayEnd (l : Launch) (Γ : wc_G) (σ μ : wc_St) {t c : Nat} (ht : t < 5) (hc3 : c < 3) (hc : σ 10 t 0 = nI c) : wc_M l yW_mayEnd cW_mayEnd 2 (some .boolean) 1 Γ [.ref (Γ.2.2 0), .ref (Γ.2.2 (35 + t))] σ μ (some (.int (fc_mayEnd σ t))) (σ) μ := by
  refine wc_enter "WaitedCommits" (by decide) rfl (Nat.le_of_ble_eq_true rfl) ?_
  intro P0 E0 S0 M0 A0 B0 T0 K0 C hr hlk
  refine wr_vs (vs' := [(0, .ref (Γ.2.2 0)), (1, .ref (Γ.2.2 (35 + t)))]) rfl ?_
  refine wr_aload_n C 1 dW_mayEnd_0 rfl rfl ?_
  refine wf_Tx_state C (by omega) (Or.inr ⟨_, tw_66⟩) dW_mayEnd_1 ?_
  refine wr_iconst C (v := nI 3) dW_mayEnd_4 (by decide) ?_
  refine wr_icmp_ne C (tgt := 42) dW_mayEnd_5 (by decide) (fun h1 => ?_) (fun h1 => ?_)
  ·
    refine wr_iconst C (v := nI 0) dW_mayEnd_42 (by decide) ?_
    exact wr_iret C hr rfl hlk dW_mayEnd_43 (by first | (simp [fc_mayEnd, fc_crd_eq hc hc3, *]; done) | (simp_all [fc_mayEnd, fc_crd_eq hc hc3]; done)) (by rfl) (by rfl)
  ·
    refine wr_aload_n C 0 dW_mayEnd_8 rfl rfl ?_
    refine wf_WC_sites C  (Or.inl tw_119) dW_mayEnd_9 ?_
    refine wr_aload_n C 1 dW_mayEnd_12 rfl rfl ?_
    refine wf_Tx_coordinator C (by omega) (Or.inr ⟨_, tw_70⟩) dW_mayEnd_13 ?_
    refine wr_top (show σ 10 t 0 = nI c by subst_vars; first | exact hc | (simpa [wc_st, fc_sto_crd, fc_finish_crd, fc_send_crd] using hc)) ?_
    refine wa_sites C (by omega) dW_mayEnd_16 ?_
    refine wf_Site_isUp C (by omega) (Or.inr ⟨_, tw_38⟩) dW_mayEnd_17 ?_
    refine wr_if_eq C (tgt := 42) dW_mayEnd_20 (by decide) (fun h2 => ?_) (fun h2 => ?_)
    ·
      refine wr_iconst C (v := nI 0) dW_mayEnd_42 (by decide) ?_
      exact wr_iret C hr rfl hlk dW_mayEnd_43 (by first | (simp [fc_mayEnd, fc_crd_eq hc hc3, *]; done) | (simp_all [fc_mayEnd, fc_crd_eq hc hc3]; done)) (by rfl) (by rfl)
    ·
      refine wr_aload_n C 0 dW_mayEnd_23 rfl rfl ?_
      refine wr_aload_n C 1 dW_mayEnd_24 rfl rfl ?_
      refine wf_Tx_coordinator C (by omega) (Or.inr ⟨_, tw_70⟩) dW_mayEnd_25 ?_
      refine wr_top (show σ 10 t 0 = nI c by subst_vars; first | exact hc | (simpa [wc_st, fc_sto_crd, fc_finish_crd, fc_send_crd] using hc)) ?_
      refine wr_callV1 C (As := [.int (nI c)]) (rest := []) (mc_earliest l Γ σ μ (q := c) (by omega)) cb_W_earliest (Or.inl tw_289) tw_290 tw_557 (by omega) (wc_c_WC) rfl (by decide) (by decide) rfl rfl (Nat.le_of_ble_eq_true rfl) ⟨Nat.le_refl _, Nat.le_refl _⟩ dW_mayEnd_28 ?_
      refine wr_aload_n C 1 dW_mayEnd_31 rfl rfl ?_
      refine wf_Tx_stamp C (by omega) (Or.inr ⟨_, tw_76⟩) dW_mayEnd_32 ?_
      refine wr_icmp_le C (tgt := 42) dW_mayEnd_35 (by decide) (fun h3 => ?_) (fun h3 => ?_)
      ·
        refine wr_iconst C (v := nI 0) dW_mayEnd_42 (by decide) ?_
        exact wr_iret C hr rfl hlk dW_mayEnd_43 (by first | (simp [fc_mayEnd, fc_crd_eq hc hc3, *]; done) | (simp_all [fc_mayEnd, fc_crd_eq hc hc3]; done)) (by rfl) (by rfl)
      ·
        refine wr_iconst C (v := nI 1) dW_mayEnd_38 (by decide) ?_
        refine wr_goto C (tgt := 43) dW_mayEnd_39 (by decide) ?_
        exact wr_iret C hr rfl hlk dW_mayEnd_43 (by first | (simp [fc_mayEnd, fc_crd_eq hc hc3, *]; done) | (simp_all [fc_mayEnd, fc_crd_eq hc hc3]; done)) (by rfl) (by rfl)
set_option maxRecDepth 100000 in
set_option maxHeartbeats 4000000 in
theorem mc_endOne (l : Launch) (Γ : wc_G) (σ μ : wc_St) {t c : Nat} (ht : t < 5) (hc3 : c < 3) (hc : σ 10 t 0 = nI c) : wc_M l yW_endOne cW_endOne 3 none 3 Γ [.ref (Γ.2.2 0), .int (nI t)] σ μ none (fc_endOne σ t c) μ := by
  refine wc_enter "WaitedCommits" (by decide) rfl (Nat.le_of_ble_eq_true rfl) ?_
  intro P0 E0 S0 M0 A0 B0 T0 K0 C hr hlk
  refine wr_vs (vs' := [(0, .ref (Γ.2.2 0)), (1, .int (nI t))]) rfl ?_
  refine wr_aload_n C 0 dW_endOne_0 rfl rfl ?_
  refine wf_WC_transactions C  (Or.inl tw_121) dW_endOne_1 ?_
  refine wr_iload_n C 1 dW_endOne_4 rfl rfl ?_
  refine wa_txs C (by omega) dW_endOne_5 ?_
  refine wr_astore_n C (vs' := [(2, .ref (Γ.2.2 (35 + t))), (0, .ref (Γ.2.2 0)), (1, .int (nI t))]) dW_endOne_6 rfl (by decide) rfl ?_
  refine wr_aload_n C 0 dW_endOne_7 rfl rfl ?_
  refine wr_iconst C (v := nI 4) dW_endOne_8 (by decide) ?_
  refine wp_Tx_state C (by omega) (Or.inr ⟨_, tw_66⟩) dW_endOne_9 ?_
  generalize hs1 : wc_st σ 8 t 0 (nI 4) = σ1
  refine wr_aload_n C 0 dW_endOne_12 rfl rfl ?_
  refine wr_aload_n C 1 dW_endOne_13 rfl rfl ?_
  refine wf_WC_time C  (Or.inl tw_123) dW_endOne_14 ?_
  refine wp_Tx_end C (by omega) (Or.inr ⟨_, tw_78⟩) dW_endOne_17 ?_
  generalize hs2 : wc_st σ1 14 t 0 (σ1 23 0 0) = σ2
  refine wr_aload_n C 1 dW_endOne_20 rfl rfl ?_
  refine wr_aload_n C 0 dW_endOne_21 rfl rfl ?_
  refine wr_aload_n C 0 dW_endOne_22 rfl rfl ?_
  refine wf_Tx_coordinator C (by omega) (Or.inr ⟨_, tw_70⟩) dW_endOne_23 ?_
  refine wr_top (show σ2 10 t 0 = nI c by subst_vars; first | exact hc | (simpa [wc_st, fc_sto_crd, fc_finish_crd, fc_send_crd] using hc)) ?_
  refine wr_callV0 C (As := [.ref (Γ.2.2 (35 + t)), .int (nI c)]) (rest := []) (mc_finishAt l Γ σ2 μ (t := t) (q := c) (by omega) (by omega)) cb_W_finishAt (Or.inl tw_275) tw_276 tw_553 (by omega) (wc_c_WC) rfl (by decide) (by decide) rfl rfl (Nat.le_of_ble_eq_true rfl) ⟨Nat.le_refl _, Nat.le_refl _⟩ dW_endOne_26 ?_
  generalize hs3 : fc_finish σ2 t c = σ3
  refine wr_aload_n C 1 dW_endOne_29 rfl rfl ?_
  refine wr_iconst C (v := nI 3) dW_endOne_30 (by decide) ?_
  refine wr_iload_n C 2 dW_endOne_31 rfl rfl ?_
  refine wr_callV1 C (As := [.int (nI 3), .int (nI t)]) (rest := []) (mc_sto l Γ σ3 μ (nI 3) (t := t) (c := c) (by omega) (by omega) (by subst_vars; first | exact hc | (simpa [wc_st, fc_sto_crd, fc_finish_crd, fc_send_crd] using hc))) cb_W_sendToOthers (Or.inl tw_213) tw_214 tw_538 (by omega) (wc_c_WC) rfl (by decide) (by decide) rfl rfl (Nat.le_of_ble_eq_true rfl) ⟨Nat.le_refl _, Nat.le_refl _⟩ dW_endOne_32 ?_
  generalize hs4 : (fc_sto (nI 3) t c 3 0 0 σ3).2 = σ4
  refine wr_pop C dW_endOne_35 rfl ?_
  exact wr_vret C hr hlk dW_endOne_36 rfl (by subst_vars; rfl) (by subst_vars; rfl)
set_option maxRecDepth 100000 in
set_option maxHeartbeats 4000000 in
theorem ml_ends {P0 : Program} {l : Launch} {E0 : Env} {S0 : State} {M0 : MethodId} {A0 : Array Value} {B0 : List Frame} {T0 : Method} {K0 : Code} {Γ : wc_G} {A : Nat → Prop} {v : Option Value} {σ' μ' : wc_St} (C : wc_C P0 S0 M0 A0 K0 cW_endWaiting 3 "WaitedCommits" Γ A) (hr : T0.sig.returnType = (some .int)) (hlk : T0.locks = false) (μ : wc_St) (hμ : μ = μ') (r1 : Nat) (hv : some (.int (nI r1)) = v) : ∀ (n : Nat) (t a : Nat) (σ : wc_St), t + n = 5 → wc_wf σ → fc_ends n t a σ = (r1, σ') → wc_K P0 l E0 (wc_rm 4) S0 M0 A0 B0 T0 K0 3 Γ A (MQ B0 (wc_Qw Γ A v σ' μ') A0 S0 0 0 A) 0 0 4 [(2, .int (nI t)), (1, .int (nI a)), (0, .ref (Γ.2.2 0))] [] σ μ := by
  subst hμ
  intro n
  induction n with
  | zero =>
    intro t a σ ht hw hres
    obtain rfl : t = 5 := by omega
    refine wr_iload_n C 0 dW_endWaiting_4 rfl rfl ?_
    refine wr_iconst C (v := nI 5) dW_endWaiting_5 (by decide) ?_
    refine wr_icmp_ge C (tgt := 36) dW_endWaiting_6 (by decide) (fun _ => ?_) (fun h1 => absurd (by decide) h1)
    refine wr_iload_n C 1 dW_endWaiting_36 rfl rfl ?_
    exact wr_iret C hr rfl hlk dW_endWaiting_37 (by rw [← hv, (Prod.mk.inj (show (a, σ) = (r1, σ') from hres)).1]) (by first | rfl | exact (Prod.mk.inj (show (a, σ) = (r1, σ') from hres)).2) (by first | rfl | exact (Prod.mk.inj (show (a, σ) = (r1, σ') from hres)).2)
  | succ n ih =>
    intro t a σ ht hw hres
    refine wr_iload_n C 0 dW_endWaiting_4 rfl rfl ?_
    refine wr_iconst C (v := nI 5) dW_endWaiting_5 (by decide) ?_
    refine wr_icmp_ge C (tgt := 36) dW_endWaiting_6 (by decide) (fun h1 => absurd h1 (wc_noge (by omega) (by omega) (by omega))) (fun _ => ?_)
    obtain ⟨c, hc3, hc⟩ := hw.1 t (by omega)
    refine wr_aload_n C 2 dW_endWaiting_9 rfl rfl ?_
    refine wr_aload_n C 2 dW_endWaiting_10 rfl rfl ?_
    refine wf_WC_transactions C  (Or.inl tw_121) dW_endWaiting_11 ?_
    refine wr_iload_n C 0 dW_endWaiting_14 rfl rfl ?_
    refine wa_txs C (by omega) dW_endWaiting_15 ?_
    refine wr_callV1 C (As := [.ref (Γ.2.2 (35 + t))]) (rest := []) (mc_mayEnd l Γ σ μ (t := t) (c := c) (by omega) (by omega) (by exact hc)) cb_W_mayEnd (Or.inl tw_286) tw_287 tw_556 (by omega) (wc_c_WC) rfl (by decide) (by decide) rfl rfl (Nat.le_of_ble_eq_true rfl) ⟨Nat.le_refl _, Nat.le_refl _⟩ dW_endWaiting_16 ?_
    refine wr_if_eq C (tgt := 30) dW_endWaiting_19 (by decide) (fun h2 => ?_) (fun h2 => ?_)
    ·
      refine wr_iinc C (v := nI (t + 1)) (vs' := [(2, .int (nI (t + 1))), (1, .int (nI a)), (0, .ref (Γ.2.2 0))]) 0 dW_endWaiting_30 rfl (wc_inc1 t) (by decide) rfl ?_
      refine wr_goto C (tgt := 4) dW_endWaiting_33 (by decide) ?_
      refine wr_sub [0, 1, 2] rfl ?_
      exact ih (t + 1) (a) σ (by omega) (by subst_vars; first | exact hw | exact wf_endOne hw hc3) (by rw [← hres]; simp [fc_ends, fc_crd_eq hc hc3, *])
    ·
      refine wr_aload_n C 2 dW_endWaiting_22 rfl rfl ?_
      refine wr_iload_n C 0 dW_endWaiting_23 rfl rfl ?_
      refine wr_callV0 C (As := [.int (nI t)]) (rest := []) (mc_endOne l Γ σ μ (t := t) (c := c) (by omega) (by omega) (by exact hc)) cb_W_endOne (Or.inl tw_292) tw_293 tw_558 (by omega) (wc_c_WC) rfl (by decide) (by decide) rfl rfl (Nat.le_of_ble_eq_true rfl) ⟨Nat.le_refl _, Nat.le_refl _⟩ dW_endWaiting_24 ?_
      generalize hs1 : fc_endOne σ t c = σ1
      refine wr_iinc C (v := nI (a + 1)) (vs' := [(1, .int (nI (a + 1))), (2, .int (nI t)), (0, .ref (Γ.2.2 0))]) 1 dW_endWaiting_27 rfl (wc_inc1 a) (by decide) rfl ?_
      refine wr_iinc C (v := nI (t + 1)) (vs' := [(2, .int (nI (t + 1))), (1, .int (nI (a + 1))), (0, .ref (Γ.2.2 0))]) 1 dW_endWaiting_30 rfl (wc_inc1 t) (by decide) rfl ?_
      refine wr_goto C (tgt := 4) dW_endWaiting_33 (by decide) ?_
      refine wr_sub [0, 1, 2] rfl ?_
      exact ih (t + 1) (a + 1) σ1 (by omega) (by subst_vars; first | exact hw | exact wf_endOne hw hc3) (by rw [← hres]; simp [fc_ends, fc_crd_eq hc hc3, *])
set_option maxRecDepth 100000 in
set_option maxHeartbeats 4000000 in
theorem mc_ends (l : Launch) (Γ : wc_G) (σ μ : wc_St) (hw : wc_wf σ) : wc_M l yW_endWaiting cW_endWaiting 3 (some .int) 4 Γ [.ref (Γ.2.2 0)] σ μ (some (.int (nI ((fc_ends 5 0 0 σ).1)))) ((fc_ends 5 0 0 σ).2) μ := by
  refine wc_enter "WaitedCommits" (by decide) rfl (Nat.le_of_ble_eq_true rfl) ?_
  intro P0 E0 S0 M0 A0 B0 T0 K0 C hr hlk
  refine wr_vs (vs' := [(0, .ref (Γ.2.2 0))]) rfl ?_
  refine wr_iconst C (v := nI 0) dW_endWaiting_0 (by decide) ?_
  refine wr_istore_n C (vs' := [(1, .int (nI 0)), (0, .ref (Γ.2.2 0))]) dW_endWaiting_1 rfl (by decide) rfl ?_
  refine wr_iconst C (v := nI 0) dW_endWaiting_2 (by decide) ?_
  refine wr_istore_n C (vs' := [(2, .int (nI 0)), (1, .int (nI 0)), (0, .ref (Γ.2.2 0))]) dW_endWaiting_3 rfl (by decide) rfl ?_
  refine wr_sub [0, 1, 2] rfl ?_
  exact ml_ends C hr hlk μ rfl _ rfl 5 0 0 σ rfl hw rfl
end
section
set_option maxRecDepth 100000 in
set_option maxHeartbeats 4000000 in
theorem mc_isDue (l : Launch) (Γ : wc_G) (σ μ : wc_St) {i : Nat} (hi : i < 15) (hw : wc_wf σ) : wc_M l yW_isDue cW_isDue 2 (some .boolean) 0 Γ [.ref (Γ.2.2 0), .ref (Γ.2.2 (55 + i))] σ μ (some (.int (fc_isDue σ i))) (σ) μ := by
  refine wc_enter "WaitedCommits" (by decide) rfl (Nat.le_of_ble_eq_true rfl) ?_
  intro P0 E0 S0 M0 A0 B0 T0 K0 C hr hlk
  refine wr_vs (vs' := [(0, .ref (Γ.2.2 0)), (1, .ref (Γ.2.2 (55 + i)))]) rfl ?_
  refine wr_aload_n C 1 dW_isDue_0 rfl rfl ?_
  refine wf_Msg_kind C (by omega) (Or.inr ⟨_, tw_105⟩) dW_isDue_1 ?_
  refine wr_if_eq C (tgt := 37) dW_isDue_4 (by decide) (fun h1 => ?_) (fun h1 => ?_)
  ·
    refine wr_iconst C (v := nI 0) dW_isDue_37 (by decide) ?_
    exact wr_iret C hr rfl hlk dW_isDue_38 (by first | (simp [fc_isDue, *]; done) | (simp [fc_isDue, hrr, nI_clamp (show r < 2 ^ 31 by omega), *]; done) | (simp_all [fc_isDue, nI_clamp (show r < 2 ^ 31 by omega)]; done)) (by rfl) (by rfl)
  ·
    refine wr_aload_n C 1 dW_isDue_7 rfl rfl ?_
    refine wf_Msg_arrival C (by omega) (Or.inr ⟨_, tw_109⟩) dW_isDue_8 ?_
    refine wr_aload_n C 0 dW_isDue_11 rfl rfl ?_
    refine wf_WC_time C  (Or.inl tw_123) dW_isDue_12 ?_
    refine wr_icmp_gt C (tgt := 37) dW_isDue_15 (by decide) (fun h2 => ?_) (fun h2 => ?_)
    ·
      refine wr_iconst C (v := nI 0) dW_isDue_37 (by decide) ?_
      exact wr_iret C hr rfl hlk dW_isDue_38 (by first | (simp [fc_isDue, *]; done) | (simp [fc_isDue, hrr, nI_clamp (show r < 2 ^ 31 by omega), *]; done) | (simp_all [fc_isDue, nI_clamp (show r < 2 ^ 31 by omega)]; done)) (by rfl) (by rfl)
    ·
      refine wr_aload_n C 0 dW_isDue_18 rfl rfl ?_
      refine wf_WC_sites C  (Or.inl tw_119) dW_isDue_19 ?_
      refine wr_aload_n C 1 dW_isDue_22 rfl rfl ?_
      refine wf_Msg_receiver C (by omega) (Or.inr ⟨_, tw_107⟩) dW_isDue_23 ?_
      obtain ⟨r, hr3, hrr⟩ := hw.2.1 i hi
      refine wr_top hrr ?_
      refine wa_sites C (by omega) dW_isDue_26 ?_
      refine wf_Site_isUp C (by omega) (Or.inr ⟨_, tw_38⟩) dW_isDue_27 ?_
      refine wr_if_eq C (tgt := 37) dW_isDue_30 (by decide) (fun h3 => ?_) (fun h3 => ?_)
      ·
        refine wr_iconst C (v := nI 0) dW_isDue_37 (by decide) ?_
        exact wr_iret C hr rfl hlk dW_isDue_38 (by first | (simp [fc_isDue, *]; done) | (simp [fc_isDue, hrr, nI_clamp (show r < 2 ^ 31 by omega), *]; done) | (simp_all [fc_isDue, nI_clamp (show r < 2 ^ 31 by omega)]; done)) (by rfl) (by rfl)
      ·
        refine wr_iconst C (v := nI 1) dW_isDue_33 (by decide) ?_
        refine wr_goto C (tgt := 38) dW_isDue_34 (by decide) ?_
        exact wr_iret C hr rfl hlk dW_isDue_38 (by first | (simp [fc_isDue, *]; done) | (simp [fc_isDue, hrr, nI_clamp (show r < 2 ^ 31 by omega), *]; done) | (simp_all [fc_isDue, nI_clamp (show r < 2 ^ 31 by omega)]; done)) (by rfl) (by rfl)
set_option maxRecDepth 100000 in
set_option maxHeartbeats 4000000 in
theorem ml_first {P0 : Program} {l : Launch} {E0 : Env} {S0 : State} {M0 : MethodId} {A0 : Array Value} {B0 : List Frame} {T0 : Method} {K0 : Code} {Γ : wc_G} {A : Nat → Prop} {v : Option Value} {σ' μ' : wc_St} (C : wc_C P0 S0 M0 A0 K0 cW_firstDue 3 "WaitedCommits" Γ A) (hr : T0.sig.returnType = (some (.object "WaitedCommits$Message"))) (hlk : T0.locks = false) (σ μ : wc_St) (hσ : σ = σ') (hμ : μ = μ') (hw : wc_wf σ) : ∀ (n i : Nat) (a : Option Nat), i + n = 15 → (∀ j, a = some j → j < 15) → some (wc_rv Γ (fc_first σ n i a)) = v → wc_K P0 l E0 (wc_rm 1) S0 M0 A0 B0 T0 K0 3 Γ A (MQ B0 (wc_Qw Γ A v σ' μ') A0 S0 0 0 A) 0 0 4 [(2, .int (nI i)), (1, wc_rv Γ a), (0, .ref (Γ.2.2 0))] [] σ μ := by
  subst hσ; subst hμ
  intro n
  induction n with
  | zero =>
    intro i a hi ha hv
    obtain rfl : i = 15 := by omega
    rcases a with _ | j
    ·
      refine wr_vs (vs' := [(2, .int (nI 15)), (1, .null), (0, .ref (Γ.2.2 0))]) rfl ?_
      refine wr_iload_n C 0 dW_firstDue_4 rfl rfl ?_
      refine wr_aload_n C 2 dW_firstDue_5 rfl rfl ?_
      refine wf_WC_slots C  (Or.inl tw_122) dW_firstDue_6 ?_
      refine wn_slots C  dW_firstDue_9 ?_
      refine wr_icmp_ge C (tgt := 56) dW_firstDue_10 (by decide) (fun _ => ?_) (fun h1 => absurd (by decide) h1)
      refine wr_aload_nN C 1 dW_firstDue_56 rfl rfl ?_
      exact wr_aret C hr (Or.inl rfl) hlk dW_firstDue_57 (by rw [← hv]; rfl) (by rfl) (by rfl)
    ·
      have hj : j < 15 := ha j rfl
      refine wr_vs (vs' := [(2, .int (nI 15)), (1, .ref (Γ.2.2 (55 + j))), (0, .ref (Γ.2.2 0))]) rfl ?_
      refine wr_iload_n C 0 dW_firstDue_4 rfl rfl ?_
      refine wr_aload_n C 2 dW_firstDue_5 rfl rfl ?_
      refine wf_WC_slots C  (Or.inl tw_122) dW_firstDue_6 ?_
      refine wn_slots C  dW_firstDue_9 ?_
      refine wr_icmp_ge C (tgt := 56) dW_firstDue_10 (by decide) (fun _ => ?_) (fun h1 => absurd (by decide) h1)
      refine wr_aload_n C 1 dW_firstDue_56 rfl rfl ?_
      exact wr_aret C hr (Or.inr ⟨_, rfl⟩) hlk dW_firstDue_57 (by rw [← hv]; rfl) (by rfl) (by rfl)
  | succ n ih =>
    intro i a hi ha hv
    rcases a with _ | j
    ·
      refine wr_vs (vs' := [(2, .int (nI i)), (1, .null), (0, .ref (Γ.2.2 0))]) rfl ?_
      refine wr_iload_n C 0 dW_firstDue_4 rfl rfl ?_
      refine wr_aload_n C 2 dW_firstDue_5 rfl rfl ?_
      refine wf_WC_slots C  (Or.inl tw_122) dW_firstDue_6 ?_
      refine wn_slots C  dW_firstDue_9 ?_
      refine wr_icmp_ge C (tgt := 56) dW_firstDue_10 (by decide) (fun h1 => absurd h1 (wc_noge (by omega) (by omega) (by omega))) (fun _ => ?_)
      refine wr_aload_n C 2 dW_firstDue_13 rfl rfl ?_
      refine wr_aload_n C 2 dW_firstDue_14 rfl rfl ?_
      refine wf_WC_slots C  (Or.inl tw_122) dW_firstDue_15 ?_
      refine wr_iload_n C 0 dW_firstDue_18 rfl rfl ?_
      refine wa_slots C (by omega) dW_firstDue_19 ?_
      refine wr_callV1 C (As := [.ref (Γ.2.2 (55 + i))]) (rest := []) (mc_isDue l Γ σ μ (i := i) (by omega) (by exact hw)) cb_W_isDue (Or.inl tw_260) tw_261 tw_548 (by omega) (wc_c_WC) rfl (by decide) (by decide) rfl rfl (Nat.le_of_ble_eq_true rfl) ⟨Nat.le_refl _, Nat.le_refl _⟩ dW_firstDue_20 ?_
      refine wr_if_eq C (tgt := 50) dW_firstDue_23 (by decide) (fun h2 => ?_) (fun h2 => ?_)
      ·
        refine wr_iinc C (v := nI (i + 1)) (vs' := [(2, .int (nI (i + 1))), (1, .null), (0, .ref (Γ.2.2 0))]) 0 dW_firstDue_50 rfl (wc_inc1 i) (by decide) rfl ?_
        refine wr_goto C (tgt := 4) dW_firstDue_53 (by decide) ?_
        refine wr_sub [0, 1, 2] rfl ?_
        exact ih (i + 1) none (by omega) (fun j' hj' => by cases hj') (by rw [← hv]; simp [fc_first, *])
      ·
        refine wr_aload_nN C 1 dW_firstDue_26 rfl rfl ?_
        refine wr_ifnullN C (tgt := 43) dW_firstDue_27 (by decide) ?_
        refine wr_aload_n C 2 dW_firstDue_43 rfl rfl ?_
        refine wf_WC_slots C  (Or.inl tw_122) dW_firstDue_44 ?_
        refine wr_iload_n C 0 dW_firstDue_47 rfl rfl ?_
        refine wa_slots C (by omega) dW_firstDue_48 ?_
        refine wr_astore_n C (vs' := [(1, .ref (Γ.2.2 (55 + i))), (2, .int (nI i)), (0, .ref (Γ.2.2 0))]) dW_firstDue_49 rfl (by decide) rfl ?_
        refine wr_iinc C (v := nI (i + 1)) (vs' := [(2, .int (nI (i + 1))), (1, .ref (Γ.2.2 (55 + i))), (0, .ref (Γ.2.2 0))]) 1 dW_firstDue_50 rfl (wc_inc1 i) (by decide) rfl ?_
        refine wr_goto C (tgt := 4) dW_firstDue_53 (by decide) ?_
        refine wr_sub [0, 1, 2] rfl ?_
        exact ih (i + 1) (some i) (by omega) (fun j' hj' => by cases hj'; omega) (by rw [← hv]; simp [fc_first, *])
    ·
      have hj : j < 15 := ha j rfl
      refine wr_vs (vs' := [(2, .int (nI i)), (1, .ref (Γ.2.2 (55 + j))), (0, .ref (Γ.2.2 0))]) rfl ?_
      refine wr_iload_n C 0 dW_firstDue_4 rfl rfl ?_
      refine wr_aload_n C 2 dW_firstDue_5 rfl rfl ?_
      refine wf_WC_slots C  (Or.inl tw_122) dW_firstDue_6 ?_
      refine wn_slots C  dW_firstDue_9 ?_
      refine wr_icmp_ge C (tgt := 56) dW_firstDue_10 (by decide) (fun h1 => absurd h1 (wc_noge (by omega) (by omega) (by omega))) (fun _ => ?_)
      refine wr_aload_n C 2 dW_firstDue_13 rfl rfl ?_
      refine wr_aload_n C 2 dW_firstDue_14 rfl rfl ?_
      refine wf_WC_slots C  (Or.inl tw_122) dW_firstDue_15 ?_
      refine wr_iload_n C 0 dW_firstDue_18 rfl rfl ?_
      refine wa_slots C (by omega) dW_firstDue_19 ?_
      refine wr_callV1 C (As := [.ref (Γ.2.2 (55 + i))]) (rest := []) (mc_isDue l Γ σ μ (i := i) (by omega) (by exact hw)) cb_W_isDue (Or.inl tw_260) tw_261 tw_548 (by omega) (wc_c_WC) rfl (by decide) (by decide) rfl rfl (Nat.le_of_ble_eq_true rfl) ⟨Nat.le_refl _, Nat.le_refl _⟩ dW_firstDue_20 ?_
      refine wr_if_eq C (tgt := 50) dW_firstDue_23 (by decide) (fun h2 => ?_) (fun h2 => ?_)
      ·
        refine wr_iinc C (v := nI (i + 1)) (vs' := [(2, .int (nI (i + 1))), (1, .ref (Γ.2.2 (55 + j))), (0, .ref (Γ.2.2 0))]) 0 dW_firstDue_50 rfl (wc_inc1 i) (by decide) rfl ?_
        refine wr_goto C (tgt := 4) dW_firstDue_53 (by decide) ?_
        refine wr_sub [0, 1, 2] rfl ?_
        exact ih (i + 1) (some j) (by omega) (fun j' hj' => by cases hj'; omega) (by rw [← hv]; simp [fc_first, *])
      ·
        refine wr_aload_n C 1 dW_firstDue_26 rfl rfl ?_
        refine wr_ifnull C dW_firstDue_27 ?_
        refine wr_aload_n C 2 dW_firstDue_30 rfl rfl ?_
        refine wf_WC_slots C  (Or.inl tw_122) dW_firstDue_31 ?_
        refine wr_iload_n C 0 dW_firstDue_34 rfl rfl ?_
        refine wa_slots C (by omega) dW_firstDue_35 ?_
        refine wr_aload_n C 1 dW_firstDue_36 rfl rfl ?_
        refine wr_callV1 C (As := [.ref (Γ.2.2 (55 + j))]) (rest := []) (mc_before l Γ σ μ (i := i) (j := j) (by omega) (by omega)) cb_G_comesBefore (Or.inr ⟨_, tw_263⟩) tw_264 tw_549 (by omega) (wc_c_Msg (by omega)) rfl (by decide) (by decide) rfl rfl (Nat.le_of_ble_eq_true rfl) ⟨Nat.le_refl _, Nat.le_refl _⟩ dW_firstDue_37 ?_
        refine wr_if_eq C (tgt := 50) dW_firstDue_40 (by decide) (fun h3 => ?_) (fun h3 => ?_)
        ·
          refine wr_iinc C (v := nI (i + 1)) (vs' := [(2, .int (nI (i + 1))), (1, .ref (Γ.2.2 (55 + j))), (0, .ref (Γ.2.2 0))]) 0 dW_firstDue_50 rfl (wc_inc1 i) (by decide) rfl ?_
          refine wr_goto C (tgt := 4) dW_firstDue_53 (by decide) ?_
          refine wr_sub [0, 1, 2] rfl ?_
          exact ih (i + 1) (some j) (by omega) (fun j' hj' => by cases hj'; omega) (by rw [← hv]; simp [fc_first, *])
        ·
          refine wr_aload_n C 2 dW_firstDue_43 rfl rfl ?_
          refine wf_WC_slots C  (Or.inl tw_122) dW_firstDue_44 ?_
          refine wr_iload_n C 0 dW_firstDue_47 rfl rfl ?_
          refine wa_slots C (by omega) dW_firstDue_48 ?_
          refine wr_astore_n C (vs' := [(1, .ref (Γ.2.2 (55 + i))), (2, .int (nI i)), (0, .ref (Γ.2.2 0))]) dW_firstDue_49 rfl (by decide) rfl ?_
          refine wr_iinc C (v := nI (i + 1)) (vs' := [(2, .int (nI (i + 1))), (1, .ref (Γ.2.2 (55 + i))), (0, .ref (Γ.2.2 0))]) 1 dW_firstDue_50 rfl (wc_inc1 i) (by decide) rfl ?_
          refine wr_goto C (tgt := 4) dW_firstDue_53 (by decide) ?_
          refine wr_sub [0, 1, 2] rfl ?_
          exact ih (i + 1) (some i) (by omega) (fun j' hj' => by cases hj'; omega) (by rw [← hv]; simp [fc_first, *])
set_option maxRecDepth 100000 in
set_option maxHeartbeats 4000000 in
theorem mc_first (l : Launch) (Γ : wc_G) (σ μ : wc_St) (hw : wc_wf σ) : wc_M l yW_firstDue cW_firstDue 3 (some (.object "WaitedCommits$Message")) 1 Γ [.ref (Γ.2.2 0)] σ μ (some (wc_rv Γ (fc_first σ 15 0 none))) (σ) μ := by
  refine wc_enter "WaitedCommits" (by decide) rfl (Nat.le_of_ble_eq_true rfl) ?_
  intro P0 E0 S0 M0 A0 B0 T0 K0 C hr hlk
  refine wr_vs (vs' := [(0, .ref (Γ.2.2 0))]) rfl ?_
  refine wr_null C dW_firstDue_0 ?_
  refine wr_astore_nN C (vs' := [(1, .null), (0, .ref (Γ.2.2 0))]) dW_firstDue_1 rfl (by decide) rfl ?_
  refine wr_iconst C (v := nI 0) dW_firstDue_2 (by decide) ?_
  refine wr_istore_n C (vs' := [(2, .int (nI 0)), (1, .null), (0, .ref (Γ.2.2 0))]) dW_firstDue_3 rfl (by decide) rfl ?_
  refine wr_sub [0, 1, 2] rfl ?_
  exact ml_first C hr hlk σ μ rfl rfl hw 15 0 none rfl (fun _ h => by cases h) rfl
set_option maxRecDepth 100000 in
set_option maxHeartbeats 4000000 in
theorem ml_deliver {P0 : Program} {l : Launch} {E0 : Env} {S0 : State} {M0 : MethodId} {A0 : Array Value} {B0 : List Frame} {T0 : Method} {K0 : Code} {Γ : wc_G} {A : Nat → Prop} {v : Option Value} {σ' μ' : wc_St} (C : wc_C P0 S0 M0 A0 K0 cW_deliverMessages 3 "WaitedCommits" Γ A) (hr : T0.sig.returnType = none) (hlk : T0.locks = false) (μ : wc_St) (hμ : μ = μ') (hv : none = v) : ∀ (n : Nat) (i : Nat) (σ : wc_St), i + n = 15 → wc_wf σ → fc_deliver n σ = σ' → wc_K P0 l E0 (wc_rm 5) S0 M0 A0 B0 T0 K0 3 Γ A (MQ B0 (wc_Qw Γ A v σ' μ') A0 S0 0 0 A) 0 0 2 [(1, .int (nI i)), (0, .ref (Γ.2.2 0))] [] σ μ := by
  subst hμ
  intro n
  induction n with
  | zero =>
    intro i σ hi hw hres
    obtain rfl : i = 15 := by omega
    refine wr_iload_n C 0 dW_deliverMessages_2 rfl rfl ?_
    refine wr_aload_n C 1 dW_deliverMessages_3 rfl rfl ?_
    refine wf_WC_slots C  (Or.inl tw_122) dW_deliverMessages_4 ?_
    refine wn_slots C  dW_deliverMessages_7 ?_
    refine wr_icmp_ge C (tgt := 39) dW_deliverMessages_8 (by decide) (fun _ => ?_) (fun h1 => absurd (by decide) h1)
    exact wr_vret C hr hlk dW_deliverMessages_39 hv (by first | rfl | (rw [← hres]; simp [fc_deliver, *]; done)) (by first | rfl | (rw [← hres]; simp [fc_deliver, *]; done))
  | succ n ih =>
    intro i σ hi hw hres
    refine wr_iload_n C 0 dW_deliverMessages_2 rfl rfl ?_
    refine wr_aload_n C 1 dW_deliverMessages_3 rfl rfl ?_
    refine wf_WC_slots C  (Or.inl tw_122) dW_deliverMessages_4 ?_
    refine wn_slots C  dW_deliverMessages_7 ?_
    refine wr_icmp_ge C (tgt := 39) dW_deliverMessages_8 (by decide) (fun h1 => absurd h1 (wc_noge (by omega) (by omega) (by omega))) (fun _ => ?_)
    refine wr_aload_n C 1 dW_deliverMessages_11 rfl rfl ?_
    refine wf_WC_underWay C  (Or.inl tw_126) dW_deliverMessages_12 ?_
    refine wr_if_le C (tgt := 39) dW_deliverMessages_15 (by decide) (fun h2 => ?_) (fun h2 => ?_)
    ·
      exact wr_vret C hr hlk dW_deliverMessages_39 hv (by first | rfl | (rw [← hres]; simp [fc_deliver, *]; done)) (by first | rfl | (rw [← hres]; simp [fc_deliver, *]; done))
    ·
      refine wr_aload_n C 1 dW_deliverMessages_18 rfl rfl ?_
      rcases hfd : fc_first σ 15 0 none with _ | j
      ·
        refine wr_callV1 C (As := []) (rest := []) (hfd ▸ mc_first l Γ σ μ (by exact hw)) cb_W_firstDue (Or.inl tw_257) tw_258 tw_547 (by omega) (wc_c_WC) rfl (by decide) (by decide) rfl rfl (Nat.le_of_ble_eq_true rfl) ⟨Nat.le_refl _, Nat.le_refl _⟩ dW_deliverMessages_19 ?_
        refine wr_astore_nN C (vs' := [(2, .null), (1, .int (nI i)), (0, .ref (Γ.2.2 0))]) dW_deliverMessages_22 rfl (by decide) rfl ?_
        refine wr_aload_nN C 0 dW_deliverMessages_23 rfl rfl ?_
        refine wr_ifnonnullN C dW_deliverMessages_24 ?_
        exact wr_vret C hr hlk dW_deliverMessages_27 hv (by first | rfl | (rw [← hres]; simp [fc_deliver, *]; done)) (by first | rfl | (rw [← hres]; simp [fc_deliver, *]; done))
      ·
        have hj15 := fc_first_lt 15 0 none j (by omega) (fun _ h => by cases h) hfd
        obtain ⟨c, hc3, hc⟩ := hw.1 (j / 3) (by omega)
        refine wr_callV1 C (As := []) (rest := []) (hfd ▸ mc_first l Γ σ μ (by exact hw)) cb_W_firstDue (Or.inl tw_257) tw_258 tw_547 (by omega) (wc_c_WC) rfl (by decide) (by decide) rfl rfl (Nat.le_of_ble_eq_true rfl) ⟨Nat.le_refl _, Nat.le_refl _⟩ dW_deliverMessages_19 ?_
        refine wr_astore_n C (vs' := [(2, .ref (Γ.2.2 (55 + j))), (1, .int (nI i)), (0, .ref (Γ.2.2 0))]) dW_deliverMessages_22 rfl (by decide) rfl ?_
        refine wr_aload_n C 0 dW_deliverMessages_23 rfl rfl ?_
        refine wr_ifnonnull C (tgt := 28) dW_deliverMessages_24 (by decide) ?_
        refine wr_aload_n C 2 dW_deliverMessages_28 rfl rfl ?_
        refine wr_aload_n C 0 dW_deliverMessages_29 rfl rfl ?_
        refine wr_callV0 C (As := [.ref (Γ.2.2 (55 + j))]) (rest := []) ((show wc_M _ _ _ _ _ _ _ [.ref (Γ.2.2 0), .ref (Γ.2.2 (55 + j))] _ _ _ _ _ from (by have h := mc_deal l Γ σ μ (t := j / 3) (q := j % 3) (c := c) (by omega) (by omega) hc3 hc; rw [show j / 3 * 3 + j % 3 = j by omega] at h; exact h))) cb_W_dealWith (Or.inl tw_266) tw_267 tw_550 (by omega) (wc_c_WC) rfl (by decide) (by decide) rfl rfl (Nat.le_of_ble_eq_true rfl) ⟨Nat.le_refl _, Nat.le_refl _⟩ dW_deliverMessages_30 ?_
        generalize hs1 : fc_deal σ (j / 3) (j % 3) c = σ1
        refine wr_iinc C (v := nI (i + 1)) (vs' := [(1, .int (nI (i + 1))), (2, .ref (Γ.2.2 (55 + j))), (0, .ref (Γ.2.2 0))]) 1 dW_deliverMessages_33 rfl (wc_inc1 i) (by decide) rfl ?_
        refine wr_goto C (tgt := 2) dW_deliverMessages_36 (by decide) ?_
        refine wr_sub [0, 2] rfl ?_
        exact ih (i + 1) σ1 (by omega) (by subst_vars; exact wf_deal hw (by omega) hc3) (by rw [← hres]; simp [fc_deliver, hfd, fc_crd_eq hc hc3, *])
set_option maxRecDepth 100000 in
set_option maxHeartbeats 4000000 in
theorem mc_deliver (l : Launch) (Γ : wc_G) (σ μ : wc_St) (hw : wc_wf σ) : wc_M l yW_deliverMessages cW_deliverMessages 3 none 5 Γ [.ref (Γ.2.2 0)] σ μ none (fc_deliver 15 σ) μ := by
  refine wc_enter "WaitedCommits" (by decide) rfl (Nat.le_of_ble_eq_true rfl) ?_
  intro P0 E0 S0 M0 A0 B0 T0 K0 C hr hlk
  refine wr_vs (vs' := [(0, .ref (Γ.2.2 0))]) rfl ?_
  refine wr_iconst C (v := nI 0) dW_deliverMessages_0 (by decide) ?_
  refine wr_istore_n C (vs' := [(1, .int (nI 0)), (0, .ref (Γ.2.2 0))]) dW_deliverMessages_1 rfl (by decide) rfl ?_
  refine wr_sub [0, 1] rfl ?_
  exact ml_deliver C hr hlk μ rfl rfl 15 0 σ rfl hw rfl
set_option maxRecDepth 100000 in
set_option maxHeartbeats 4000000 in
theorem ml_steps {P0 : Program} {l : Launch} {E0 : Env} {S0 : State} {M0 : MethodId} {A0 : Array Value} {B0 : List Frame} {T0 : Method} {K0 : Code} {Γ : wc_G} {A : Nat → Prop} {v : Option Value} {σ' μ' : wc_St} (C : wc_C P0 S0 M0 A0 K0 cW_step 4 "WaitedCommits" Γ A) (hr : T0.sig.returnType = (some .int)) (hlk : T0.locks = false) (N : Nat) (hN : N ≤ 500) (μ : wc_St) (hμ : μ = μ') (r1 : Nat) (hv : some (.int (nI r1)) = v) : ∀ (n : Nat) (i a : Nat) (σ : wc_St), i + n = N → wc_wf σ → fc_steps n a σ = (r1, σ') → wc_K P0 l E0 (wc_rm 6) S0 M0 A0 B0 T0 K0 4 Γ A (MQ B0 (wc_Qw Γ A v σ' μ') A0 S0 0 0 A) 0 0 17 [(3, .int (nI i)), (2, .int (nI a)), (0, .ref (Γ.2.2 0)), (1, .int (nI N))] [] σ μ := by
  subst hμ
  intro n
  induction n with
  | zero =>
    intro i a σ hi hw hres
    obtain rfl : i = N := by omega
    refine wr_iload_n C 0 dW_step_17 rfl rfl ?_
    refine wr_iload_n C 3 dW_step_18 rfl rfl ?_
    refine wr_icmp_ge C (tgt := 49) dW_step_19 (by decide) (fun h1 => ?_) (fun h1 => ?_)
    ·
      rw [nI_leI (by omega) (by omega)] at h1
      refine wr_iload_n C 1 dW_step_49 rfl rfl ?_
      exact wr_iret C hr rfl hlk dW_step_50 (by rw [← hv, (Prod.mk.inj (show (a, σ) = (r1, σ') from hres)).1]) (by first | rfl | exact (Prod.mk.inj (show (a, σ) = (r1, σ') from hres)).2) (by first | rfl | exact (Prod.mk.inj (show (a, σ) = (r1, σ') from hres)).2)
    ·
      rw [nI_leI (by omega) (by omega)] at h1
      exact absurd h1 (by omega)
  | succ n ih =>
    intro i a σ hi hw hres
    refine wr_iload_n C 0 dW_step_17 rfl rfl ?_
    refine wr_iload_n C 3 dW_step_18 rfl rfl ?_
    refine wr_icmp_ge C (tgt := 49) dW_step_19 (by decide) (fun h1 => ?_) (fun h1 => ?_)
    ·
      rw [nI_leI (by omega) (by omega)] at h1
      exact absurd h1 (by omega)
    ·
      rw [nI_leI (by omega) (by omega)] at h1
      refine wr_aload_n C 2 dW_step_22 rfl rfl ?_
      refine wr_dup C dW_step_23 rfl ?_
      refine wf_WC_time C  (Or.inl tw_123) dW_step_24 ?_
      refine wr_iconst C (v := nI 1) dW_step_27 (by decide) ?_
      refine wr_iadd C (z := (σ 23 0 0) + (nI 1)) dW_step_28 rfl ?_
      refine wp_WC_time C  (Or.inl tw_123) dW_step_29 ?_
      generalize hs1 : wc_st σ 23 0 0 ((σ 23 0 0) + (nI 1)) = σ1
      refine wr_aload_n C 2 dW_step_32 rfl rfl ?_
      refine wr_callV0 C (As := []) (rest := []) (mc_deliver l Γ σ1 μ (by subst_vars; first | exact wf_tick hw | exact wf_deliver 15 _ (wf_tick hw))) cb_W_deliverMessages (Or.inl tw_254) tw_255 tw_546 (by omega) (wc_c_WC) rfl (by decide) (by decide) rfl rfl (Nat.le_of_ble_eq_true rfl) ⟨Nat.le_refl _, Nat.le_refl _⟩ dW_step_33 ?_
      generalize hs2 : fc_deliver 15 σ1 = σ2
      refine wr_iload_n C 1 dW_step_36 rfl rfl ?_
      refine wr_aload_n C 2 dW_step_37 rfl rfl ?_
      refine wr_callV1 C (As := []) (rest := [.int (nI a)]) (mc_ends l Γ σ2 μ (by subst_vars; first | exact wf_tick hw | exact wf_deliver 15 _ (wf_tick hw))) cb_W_endWaiting (Or.inl tw_283) tw_284 tw_555 (by omega) (wc_c_WC) rfl (by decide) (by decide) rfl rfl (Nat.le_of_ble_eq_true rfl) ⟨Nat.le_refl _, Nat.le_refl _⟩ dW_step_38 ?_
      generalize hs3 : (fc_ends 5 0 0 σ2).2 = σ3
      refine wr_iadd C (z := nI (a + (fc_ends 5 0 0 σ2).1)) dW_step_41 (nI_add a ((fc_ends 5 0 0 σ2).1)) ?_
      refine wr_istore_n C (vs' := [(2, .int (nI (a + (fc_ends 5 0 0 σ2).1))), (3, .int (nI i)), (0, .ref (Γ.2.2 0)), (1, .int (nI N))]) dW_step_42 rfl (by decide) rfl ?_
      refine wr_iinc C (v := nI (i + 1)) (vs' := [(3, .int (nI (i + 1))), (2, .int (nI (a + (fc_ends 5 0 0 σ2).1))), (0, .ref (Γ.2.2 0)), (1, .int (nI N))]) 1 dW_step_43 rfl (wc_inc1 i) (by decide) rfl ?_
      refine wr_goto C (tgt := 17) dW_step_46 (by decide) ?_
      refine wr_sub [0, 1, 2, 3] rfl ?_
      exact ih (i + 1) (a + (fc_ends 5 0 0 σ2).1) σ3 (by omega) (by subst_vars; exact wf_ends 5 0 0 _ (by omega) (wf_deliver 15 _ (wf_tick hw))) (by rw [← hres]; subst_vars; rfl)
end
section
/-! The public calls of the class, with any ints. -/
def wc_out (a : Int32) (n : Nat) : Prop := a < 0 ∨ nI n ≤ a
theorem wc_out_not {a : Int32} {n : Nat} (h : ¬ wc_out a n) (hn : n < 2 ^ 31) : ∃ j, j < n ∧ a = nI j := by
  rcases pk_ix a hn with h1 | h1 | h1
  · exact absurd (Or.inl h1) h
  · exact absurd (Or.inr h1) h
  · exact h1
theorem wc_out_nI {j n : Nat} (h : j < n) (hn : n < 2 ^ 31) : ¬ wc_out (nI j) n := fun q => q.elim (nI_pos (by omega)) (nI_ge h hn)
def fc_clock (σ : wc_St) (p : Nat) (a b : Int32) : Int32 × wc_St := if fc_isError σ a = 0 then (nI 0, σ) else if fc_isError σ b = 0 then (nI 0, σ) else (nI 1, wc_st (wc_st σ 0 p 0 a) 1 p 0 b)
def fc_delay (σ : wc_St) (p : Nat) (d : Int32) : Int32 × wc_St := if d < 0 then (nI 0, σ) else if d ≤ nI 9 then (nI 1, wc_st σ 2 p 0 d) else (nI 0, σ)
def fc_power (σ : wc_St) (p : Nat) (u : Int32) : Int32 × wc_St := if σ 3 p 0 = u then (nI 0, σ) else (nI 1, wc_st σ 3 p 0 u)
def fc_begin1 (σ : wc_St) (t : Nat) : wc_St :=
  let σ1 := wc_st σ 8 t 0 (nI 1)
  let σ2 := wc_st σ1 9 t 0 (σ1 24 0 0)
  wc_st σ2 24 0 0 (σ2 24 0 0 + nI 1)
def fc_begin (σ : wc_St) (t : Nat) : Int32 × wc_St := if fc_canBegin σ t = 0 then (nI 0, σ) else (nI 1, fc_begin1 σ t)
def fc_commit (σ : wc_St) (t : Nat) : Int32 × wc_St := if fc_active σ t = 0 then (nI 0, σ) else if fc_least σ t = -1 then (nI 0, σ) else if σ 3 (fc_least σ t).toNatClampNeg 0 = 0 then (nI 0, σ) else (nI 1, fc_prepare (wc_st σ 10 t 0 (fc_least σ t)) t (fc_least σ t).toNatClampNeg)
def fc_abort (σ : wc_St) (t : Nat) : Int32 × wc_St := if fc_active σ t = 0 then (nI 0, σ) else (nI 1, fc_giveUp σ t)
def fc_readAt (σ : wc_St) (k : Nat) (r : Int32) : Int64 × wc_St := if σ 3 (k % 3) 0 = 0 then (1099511627776, σ) else if r ≤ fc_ready σ (k % 3) then (fc_vat (fc_raise σ (k % 3) r) k r 4 0, fc_raise σ (k % 3) r) else (1099511627776, σ)
def fc_stamp (σ : wc_St) (t : Nat) : Int32 := if σ 8 t 0 = nI 3 then σ 13 t 0 else if σ 8 t 0 = nI 4 then σ 13 t 0 else -1
def fc_end (σ : wc_St) (t : Nat) : Int32 := if σ 8 t 0 = nI 4 then σ 14 t 0 else -1
def fc_marks2 (σ : wc_St) (p : Nat) : Int32 := if fc_marks σ p 5 0 0 = 0 then nI 0 else nI (fc_marks σ p 5 0 0) + nI 8 * fc_leastMark σ p
def fc_safe (σ : wc_St) (p : Nat) : Int32 := if σ 3 p 0 = 0 then -1 else fc_ready σ p
def fc_version (σ : wc_St) (k : Nat) (i : Int32) : Int32 := if i < 0 then -1 else if i < σ 5 k 0 then σ 7 k i.toNatClampNeg else -1
theorem fc_marks_le {σ : wc_St} {p : Nat} : ∀ (n t a : Nat), fc_marks σ p n t a ≤ a + n := by
  intro n
  induction n with
  | zero => intro t a; exact Nat.le_refl _
  | succ n ih =>
    intro t a
    unfold fc_marks
    split
    · exact Nat.le_trans (ih _ _) (by omega)
    · exact Nat.le_trans (ih _ _) (by omega)
theorem wc_ix4 {i c : Int32} (h1 : ¬ i < 0) (h2 : i < c) (h3 : c ≤ nI 4) : ∃ j, j < 4 ∧ i = nI j := by
  rcases pk_ix i (n := 4) (by decide) with h | h | h
  · exact absurd h h1
  · exfalso
    rw [Int32.lt_iff_toInt_lt] at h2
    rw [Int32.le_iff_toInt_le] at h3 h
    omega
  · exact h
end
section
set_option maxRecDepth 100000 in
set_option maxHeartbeats 4000000 in
theorem mc_clockO (l : Launch) (Γ : wc_G) (σ μ : wc_St) (a : Int32) (ha : a < 0 ∨ nI 3 ≤ a) (b d : Int32) : wc_M l yW_clock cW_clock 4 (some .boolean) 1 Γ [.ref (Γ.2.2 0), .int a, .int b, .int d] σ μ (some (.int (nI 0))) (σ) μ := by
  refine wc_enter "WaitedCommits" (by decide) rfl (Nat.le_of_ble_eq_true rfl) ?_
  intro P0 E0 S0 M0 A0 B0 T0 K0 C hr hlk
  refine wr_vs (vs' := [(0, .ref (Γ.2.2 0)), (1, .int a), (2, .int b), (3, .int d)]) rfl ?_
  refine wr_iload_n C 1 dW_clock_0 rfl rfl ?_
  refine wr_callS1 C (As := [.int a]) (rest := []) (mc_isSiteO l Γ σ μ a ha) cb_W_isSite (Or.inl tw_140) tw_141 (by decide) (by decide) rfl rfl (Nat.le_of_ble_eq_true rfl) ⟨Nat.le_refl _, Nat.le_refl _⟩ dW_clock_1 ?_
  refine wr_if_eq C (tgt := 23) dW_clock_4 (by decide) (fun _ => ?_) (fun h1 => absurd (by decide) h1)
  refine wr_iconst C (v := nI 0) dW_clock_23 (by decide) ?_
  exact wr_iret C hr rfl hlk dW_clock_24 (by rfl) (by rfl) (by rfl)
set_option maxRecDepth 100000 in
set_option maxHeartbeats 4000000 in
theorem mc_clockI (l : Launch) (Γ : wc_G) (σ μ : wc_St) {q : Nat} (hq : q < 3) (b d : Int32) : wc_M l yW_clock cW_clock 4 (some .boolean) 1 Γ [.ref (Γ.2.2 0), .int (nI q), .int b, .int d] σ μ (some (.int ((fc_clock σ q b d).1))) ((fc_clock σ q b d).2) μ := by
  refine wc_enter "WaitedCommits" (by decide) rfl (Nat.le_of_ble_eq_true rfl) ?_
  intro P0 E0 S0 M0 A0 B0 T0 K0 C hr hlk
  refine wr_vs (vs' := [(0, .ref (Γ.2.2 0)), (1, .int (nI q)), (2, .int b), (3, .int d)]) rfl ?_
  refine wr_iload_n C 1 dW_clock_0 rfl rfl ?_
  refine wr_callS1 C (As := [.int (nI q)]) (rest := []) (mc_isSiteI l Γ σ μ (j := q) (by omega)) cb_W_isSite (Or.inl tw_140) tw_141 (by decide) (by decide) rfl rfl (Nat.le_of_ble_eq_true rfl) ⟨Nat.le_refl _, Nat.le_refl _⟩ dW_clock_1 ?_
  refine wr_if_eq C (tgt := 23) dW_clock_4 (by decide) (fun h1 => absurd h1 (by decide)) (fun _ => ?_)
  refine wr_aload_n C 0 dW_clock_7 rfl rfl ?_
  refine wr_iload_n C 2 dW_clock_8 rfl rfl ?_
  refine wr_callV1 C (As := [.int b]) (rest := []) (mc_isError l Γ σ μ b) cb_W_isError (Or.inl tw_143) tw_144 tw_529 (by omega) (wc_c_WC) rfl (by decide) (by decide) rfl rfl (Nat.le_of_ble_eq_true rfl) ⟨Nat.le_refl _, Nat.le_refl _⟩ dW_clock_9 ?_
  refine wr_if_eq C (tgt := 23) dW_clock_12 (by decide) (fun h2 => ?_) (fun h2 => ?_)
  ·
    refine wr_iconst C (v := nI 0) dW_clock_23 (by decide) ?_
    exact wr_iret C hr rfl hlk dW_clock_24 (by subst_vars; first | (simp [fc_clock, wc_nIe, wc_nI0, wc_nIm, *]; done) | (simp_all [fc_clock, wc_nIe, wc_nI0, wc_nIm]; done)) (by first | rfl | (subst_vars; first | (simp [fc_clock, wc_nIe, wc_nI0, wc_nIm, *]; done) | (simp_all [fc_clock, wc_nIe, wc_nI0, wc_nIm]; done))) (by first | rfl | (subst_vars; first | (simp [fc_clock, wc_nIe, wc_nI0, wc_nIm, *]; done) | (simp_all [fc_clock, wc_nIe, wc_nI0, wc_nIm]; done)))
  ·
    refine wr_aload_n C 0 dW_clock_15 rfl rfl ?_
    refine wr_iload_n C 3 dW_clock_16 rfl rfl ?_
    refine wr_callV1 C (As := [.int d]) (rest := []) (mc_isError l Γ σ μ d) cb_W_isError (Or.inl tw_143) tw_144 tw_529 (by omega) (wc_c_WC) rfl (by decide) (by decide) rfl rfl (Nat.le_of_ble_eq_true rfl) ⟨Nat.le_refl _, Nat.le_refl _⟩ dW_clock_17 ?_
    refine wr_if_ne C (tgt := 25) dW_clock_20 (by decide) (fun h3 => ?_) (fun h3 => ?_)
    ·
      refine wr_aload_n C 0 dW_clock_25 rfl rfl ?_
      refine wf_WC_sites C  (Or.inl tw_119) dW_clock_26 ?_
      refine wr_iload_n C 1 dW_clock_29 rfl rfl ?_
      refine wa_sites C (by omega) dW_clock_30 ?_
      refine wr_iload_n C 2 dW_clock_31 rfl rfl ?_
      refine wp_Site_before C (by omega) (Or.inr ⟨_, tw_32⟩) dW_clock_32 ?_
      generalize hs1 : wc_st σ 0 q 0 b = σ1
      refine wr_aload_n C 0 dW_clock_35 rfl rfl ?_
      refine wf_WC_sites C  (Or.inl tw_119) dW_clock_36 ?_
      refine wr_iload_n C 1 dW_clock_39 rfl rfl ?_
      refine wa_sites C (by omega) dW_clock_40 ?_
      refine wr_iload_n C 3 dW_clock_41 rfl rfl ?_
      refine wp_Site_after C (by omega) (Or.inr ⟨_, tw_34⟩) dW_clock_42 ?_
      generalize hs2 : wc_st σ1 1 q 0 d = σ2
      refine wr_iconst C (v := nI 1) dW_clock_45 (by decide) ?_
      exact wr_iret C hr rfl hlk dW_clock_46 (by subst_vars; first | (simp [fc_clock, wc_nIe, wc_nI0, wc_nIm, *]; done) | (simp_all [fc_clock, wc_nIe, wc_nI0, wc_nIm]; done)) (by first | rfl | (subst_vars; first | (simp [fc_clock, wc_nIe, wc_nI0, wc_nIm, *]; done) | (simp_all [fc_clock, wc_nIe, wc_nI0, wc_nIm]; done))) (by first | rfl | (subst_vars; first | (simp [fc_clock, wc_nIe, wc_nI0, wc_nIm, *]; done) | (simp_all [fc_clock, wc_nIe, wc_nI0, wc_nIm]; done)))
    ·
      refine wr_iconst C (v := nI 0) dW_clock_23 (by decide) ?_
      exact wr_iret C hr rfl hlk dW_clock_24 (by subst_vars; first | (simp [fc_clock, wc_nIe, wc_nI0, wc_nIm, *]; done) | (simp_all [fc_clock, wc_nIe, wc_nI0, wc_nIm]; done)) (by first | rfl | (subst_vars; first | (simp [fc_clock, wc_nIe, wc_nI0, wc_nIm, *]; done) | (simp_all [fc_clock, wc_nIe, wc_nI0, wc_nIm]; done))) (by first | rfl | (subst_vars; first | (simp [fc_clock, wc_nIe, wc_nI0, wc_nIm, *]; done) | (simp_all [fc_clock, wc_nIe, wc_nI0, wc_nIm]; done)))
set_option maxRecDepth 100000 in
set_option maxHeartbeats 4000000 in
theorem mc_delayO (l : Launch) (Γ : wc_G) (σ μ : wc_St) (a : Int32) (ha : a < 0 ∨ nI 3 ≤ a) (b : Int32) : wc_M l yW_delay cW_delay 3 (some .boolean) 1 Γ [.ref (Γ.2.2 0), .int a, .int b] σ μ (some (.int (nI 0))) (σ) μ := by
  refine wc_enter "WaitedCommits" (by decide) rfl (Nat.le_of_ble_eq_true rfl) ?_
  intro P0 E0 S0 M0 A0 B0 T0 K0 C hr hlk
  refine wr_vs (vs' := [(0, .ref (Γ.2.2 0)), (1, .int a), (2, .int b)]) rfl ?_
  refine wr_iload_n C 1 dW_delay_0 rfl rfl ?_
  refine wr_callS1 C (As := [.int a]) (rest := []) (mc_isSiteO l Γ σ μ a ha) cb_W_isSite (Or.inl tw_140) tw_141 (by decide) (by decide) rfl rfl (Nat.le_of_ble_eq_true rfl) ⟨Nat.le_refl _, Nat.le_refl _⟩ dW_delay_1 ?_
  refine wr_if_eq C (tgt := 17) dW_delay_4 (by decide) (fun _ => ?_) (fun h1 => absurd (by decide) h1)
  refine wr_iconst C (v := nI 0) dW_delay_17 (by decide) ?_
  exact wr_iret C hr rfl hlk dW_delay_18 (by rfl) (by rfl) (by rfl)
set_option maxRecDepth 100000 in
set_option maxHeartbeats 4000000 in
theorem mc_delayI (l : Launch) (Γ : wc_G) (σ μ : wc_St) {q : Nat} (hq : q < 3) (b : Int32) : wc_M l yW_delay cW_delay 3 (some .boolean) 1 Γ [.ref (Γ.2.2 0), .int (nI q), .int b] σ μ (some (.int ((fc_delay σ q b).1))) ((fc_delay σ q b).2) μ := by
  refine wc_enter "WaitedCommits" (by decide) rfl (Nat.le_of_ble_eq_true rfl) ?_
  intro P0 E0 S0 M0 A0 B0 T0 K0 C hr hlk
  refine wr_vs (vs' := [(0, .ref (Γ.2.2 0)), (1, .int (nI q)), (2, .int b)]) rfl ?_
  refine wr_iload_n C 1 dW_delay_0 rfl rfl ?_
  refine wr_callS1 C (As := [.int (nI q)]) (rest := []) (mc_isSiteI l Γ σ μ (j := q) (by omega)) cb_W_isSite (Or.inl tw_140) tw_141 (by decide) (by decide) rfl rfl (Nat.le_of_ble_eq_true rfl) ⟨Nat.le_refl _, Nat.le_refl _⟩ dW_delay_1 ?_
  refine wr_if_eq C (tgt := 17) dW_delay_4 (by decide) (fun h1 => absurd h1 (by decide)) (fun _ => ?_)
  refine wr_iload_n C 2 dW_delay_7 rfl rfl ?_
  refine wr_if_lt C (tgt := 17) dW_delay_8 (by decide) (fun h2 => ?_) (fun h2 => ?_)
  ·
    refine wr_iconst C (v := nI 0) dW_delay_17 (by decide) ?_
    exact wr_iret C hr rfl hlk dW_delay_18 (by subst_vars; first | (simp [fc_delay, wc_nIe, wc_nI0, wc_nIm, *]; done) | (simp_all [fc_delay, wc_nIe, wc_nI0, wc_nIm]; done)) (by first | rfl | (subst_vars; first | (simp [fc_delay, wc_nIe, wc_nI0, wc_nIm, *]; done) | (simp_all [fc_delay, wc_nIe, wc_nI0, wc_nIm]; done))) (by first | rfl | (subst_vars; first | (simp [fc_delay, wc_nIe, wc_nI0, wc_nIm, *]; done) | (simp_all [fc_delay, wc_nIe, wc_nI0, wc_nIm]; done)))
  ·
    refine wr_iload_n C 2 dW_delay_11 rfl rfl ?_
    refine wr_bipush C (v := nI 9) dW_delay_12 (by decide) ?_
    refine wr_icmp_le C (tgt := 19) dW_delay_14 (by decide) (fun h3 => ?_) (fun h3 => ?_)
    ·
      refine wr_aload_n C 0 dW_delay_19 rfl rfl ?_
      refine wf_WC_sites C  (Or.inl tw_119) dW_delay_20 ?_
      refine wr_iload_n C 1 dW_delay_23 rfl rfl ?_
      refine wa_sites C (by omega) dW_delay_24 ?_
      refine wr_iload_n C 2 dW_delay_25 rfl rfl ?_
      refine wp_Site_delay C (by omega) (Or.inr ⟨_, tw_36⟩) dW_delay_26 ?_
      generalize hs1 : wc_st σ 2 q 0 b = σ1
      refine wr_iconst C (v := nI 1) dW_delay_29 (by decide) ?_
      exact wr_iret C hr rfl hlk dW_delay_30 (by subst_vars; first | (simp [fc_delay, wc_nIe, wc_nI0, wc_nIm, *]; done) | (simp_all [fc_delay, wc_nIe, wc_nI0, wc_nIm]; done)) (by first | rfl | (subst_vars; first | (simp [fc_delay, wc_nIe, wc_nI0, wc_nIm, *]; done) | (simp_all [fc_delay, wc_nIe, wc_nI0, wc_nIm]; done))) (by first | rfl | (subst_vars; first | (simp [fc_delay, wc_nIe, wc_nI0, wc_nIm, *]; done) | (simp_all [fc_delay, wc_nIe, wc_nI0, wc_nIm]; done)))
    ·
      refine wr_iconst C (v := nI 0) dW_delay_17 (by decide) ?_
      exact wr_iret C hr rfl hlk dW_delay_18 (by subst_vars; first | (simp [fc_delay, wc_nIe, wc_nI0, wc_nIm, *]; done) | (simp_all [fc_delay, wc_nIe, wc_nI0, wc_nIm]; done)) (by first | rfl | (subst_vars; first | (simp [fc_delay, wc_nIe, wc_nI0, wc_nIm, *]; done) | (simp_all [fc_delay, wc_nIe, wc_nI0, wc_nIm]; done))) (by first | rfl | (subst_vars; first | (simp [fc_delay, wc_nIe, wc_nI0, wc_nIm, *]; done) | (simp_all [fc_delay, wc_nIe, wc_nI0, wc_nIm]; done)))
set_option maxRecDepth 100000 in
set_option maxHeartbeats 4000000 in
theorem mc_powerO (l : Launch) (Γ : wc_G) (σ μ : wc_St) (a : Int32) (ha : a < 0 ∨ nI 3 ≤ a) (b : Int32) : wc_M l yW_power cW_power 3 (some .boolean) 1 Γ [.ref (Γ.2.2 0), .int a, .int b] σ μ (some (.int (nI 0))) (σ) μ := by
  refine wc_enter "WaitedCommits" (by decide) rfl (Nat.le_of_ble_eq_true rfl) ?_
  intro P0 E0 S0 M0 A0 B0 T0 K0 C hr hlk
  refine wr_vs (vs' := [(0, .ref (Γ.2.2 0)), (1, .int a), (2, .int b)]) rfl ?_
  refine wr_iload_n C 1 dW_power_0 rfl rfl ?_
  refine wr_callS1 C (As := [.int a]) (rest := []) (mc_isSiteO l Γ σ μ a ha) cb_W_isSite (Or.inl tw_140) tw_141 (by decide) (by decide) rfl rfl (Nat.le_of_ble_eq_true rfl) ⟨Nat.le_refl _, Nat.le_refl _⟩ dW_power_1 ?_
  refine wr_if_eq C (tgt := 20) dW_power_4 (by decide) (fun _ => ?_) (fun h1 => absurd (by decide) h1)
  refine wr_iconst C (v := nI 0) dW_power_20 (by decide) ?_
  exact wr_iret C hr rfl hlk dW_power_21 (by rfl) (by rfl) (by rfl)
set_option maxRecDepth 100000 in
set_option maxHeartbeats 4000000 in
theorem mc_powerI (l : Launch) (Γ : wc_G) (σ μ : wc_St) {q : Nat} (hq : q < 3) (b : Int32) (hup1 : narrow .boolean (.int b) = .int b) (hup2 : fits .boolean (.int b) = true) : wc_M l yW_power cW_power 3 (some .boolean) 1 Γ [.ref (Γ.2.2 0), .int (nI q), .int b] σ μ (some (.int ((fc_power σ q b).1))) ((fc_power σ q b).2) μ := by
  refine wc_enter "WaitedCommits" (by decide) rfl (Nat.le_of_ble_eq_true rfl) ?_
  intro P0 E0 S0 M0 A0 B0 T0 K0 C hr hlk
  refine wr_vs (vs' := [(0, .ref (Γ.2.2 0)), (1, .int (nI q)), (2, .int b)]) rfl ?_
  refine wr_iload_n C 1 dW_power_0 rfl rfl ?_
  refine wr_callS1 C (As := [.int (nI q)]) (rest := []) (mc_isSiteI l Γ σ μ (j := q) (by omega)) cb_W_isSite (Or.inl tw_140) tw_141 (by decide) (by decide) rfl rfl (Nat.le_of_ble_eq_true rfl) ⟨Nat.le_refl _, Nat.le_refl _⟩ dW_power_1 ?_
  refine wr_if_eq C (tgt := 20) dW_power_4 (by decide) (fun h1 => absurd h1 (by decide)) (fun _ => ?_)
  refine wr_aload_n C 0 dW_power_7 rfl rfl ?_
  refine wf_WC_sites C  (Or.inl tw_119) dW_power_8 ?_
  refine wr_iload_n C 1 dW_power_11 rfl rfl ?_
  refine wa_sites C (by omega) dW_power_12 ?_
  refine wf_Site_isUp C (by omega) (Or.inr ⟨_, tw_38⟩) dW_power_13 ?_
  refine wr_iload_n C 2 dW_power_16 rfl rfl ?_
  refine wr_icmp_ne C (tgt := 22) dW_power_17 (by decide) (fun h2 => ?_) (fun h2 => ?_)
  ·
    refine wr_aload_n C 0 dW_power_22 rfl rfl ?_
    refine wf_WC_sites C  (Or.inl tw_119) dW_power_23 ?_
    refine wr_iload_n C 1 dW_power_26 rfl rfl ?_
    refine wa_sites C (by omega) dW_power_27 ?_
    refine wr_iload_n C 2 dW_power_28 rfl rfl ?_
    refine wp_Site_isUp C (by omega) hup1 hup2 (Or.inr ⟨_, tw_38⟩) dW_power_29 ?_
    generalize hs1 : wc_st σ 3 q 0 b = σ1
    refine wr_iconst C (v := nI 1) dW_power_32 (by decide) ?_
    exact wr_iret C hr rfl hlk dW_power_33 (by subst_vars; first | (simp [fc_power, wc_nIe, wc_nI0, wc_nIm, *]; done) | (simp_all [fc_power, wc_nIe, wc_nI0, wc_nIm]; done)) (by first | rfl | (subst_vars; first | (simp [fc_power, wc_nIe, wc_nI0, wc_nIm, *]; done) | (simp_all [fc_power, wc_nIe, wc_nI0, wc_nIm]; done))) (by first | rfl | (subst_vars; first | (simp [fc_power, wc_nIe, wc_nI0, wc_nIm, *]; done) | (simp_all [fc_power, wc_nIe, wc_nI0, wc_nIm]; done)))
  ·
    refine wr_iconst C (v := nI 0) dW_power_20 (by decide) ?_
    exact wr_iret C hr rfl hlk dW_power_21 (by subst_vars; first | (simp [fc_power, wc_nIe, wc_nI0, wc_nIm, *]; done) | (simp_all [fc_power, wc_nIe, wc_nI0, wc_nIm]; done)) (by first | rfl | (subst_vars; first | (simp [fc_power, wc_nIe, wc_nI0, wc_nIm, *]; done) | (simp_all [fc_power, wc_nIe, wc_nI0, wc_nIm]; done))) (by first | rfl | (subst_vars; first | (simp [fc_power, wc_nIe, wc_nI0, wc_nIm, *]; done) | (simp_all [fc_power, wc_nIe, wc_nI0, wc_nIm]; done)))
set_option maxRecDepth 100000 in
set_option maxHeartbeats 4000000 in
theorem mc_beginO (l : Launch) (Γ : wc_G) (σ μ : wc_St) (a : Int32) (ha : a < 0 ∨ nI 5 ≤ a) : wc_M l yW_begin cW_begin 2 (some .boolean) 3 Γ [.ref (Γ.2.2 0), .int a] σ μ (some (.int (nI 0))) (σ) μ := by
  refine wc_enter "WaitedCommits" (by decide) rfl (Nat.le_of_ble_eq_true rfl) ?_
  intro P0 E0 S0 M0 A0 B0 T0 K0 C hr hlk
  refine wr_vs (vs' := [(0, .ref (Γ.2.2 0)), (1, .int a)]) rfl ?_
  refine wr_iload_n C 1 dW_begin_0 rfl rfl ?_
  refine wr_callS1 C (As := [.int a]) (rest := []) (mc_isTxO l Γ σ μ a ha) cb_W_isTransaction (Or.inl tw_158) tw_159 (by decide) (by decide) rfl rfl (Nat.le_of_ble_eq_true rfl) ⟨Nat.le_refl _, Nat.le_refl _⟩ dW_begin_1 ?_
  refine wr_if_eq C (tgt := 19) dW_begin_4 (by decide) (fun _ => ?_) (fun h1 => absurd (by decide) h1)
  refine wr_iconst C (v := nI 0) dW_begin_19 (by decide) ?_
  exact wr_iret C hr rfl hlk dW_begin_20 (by rfl) (by rfl) (by rfl)
set_option maxRecDepth 100000 in
set_option maxHeartbeats 4000000 in
theorem mc_beginI (l : Launch) (Γ : wc_G) (σ μ : wc_St) {t : Nat} (ht : t < 5) : wc_M l yW_begin cW_begin 2 (some .boolean) 3 Γ [.ref (Γ.2.2 0), .int (nI t)] σ μ (some (.int ((fc_begin σ t).1))) ((fc_begin σ t).2) μ := by
  refine wc_enter "WaitedCommits" (by decide) rfl (Nat.le_of_ble_eq_true rfl) ?_
  intro P0 E0 S0 M0 A0 B0 T0 K0 C hr hlk
  refine wr_vs (vs' := [(0, .ref (Γ.2.2 0)), (1, .int (nI t))]) rfl ?_
  refine wr_iload_n C 1 dW_begin_0 rfl rfl ?_
  refine wr_callS1 C (As := [.int (nI t)]) (rest := []) (mc_isTxI l Γ σ μ (j := t) (by omega)) cb_W_isTransaction (Or.inl tw_158) tw_159 (by decide) (by decide) rfl rfl (Nat.le_of_ble_eq_true rfl) ⟨Nat.le_refl _, Nat.le_refl _⟩ dW_begin_1 ?_
  refine wr_if_eq C (tgt := 19) dW_begin_4 (by decide) (fun h1 => absurd h1 (by decide)) (fun _ => ?_)
  refine wr_aload_n C 0 dW_begin_7 rfl rfl ?_
  refine wf_WC_transactions C  (Or.inl tw_121) dW_begin_8 ?_
  refine wr_iload_n C 1 dW_begin_11 rfl rfl ?_
  refine wa_txs C (by omega) dW_begin_12 ?_
  refine wr_callS1 C (As := [.ref (Γ.2.2 (35 + t))]) (rest := []) (mc_canBegin l Γ σ μ (t := t) (by omega)) cb_W_canBegin (Or.inl tw_161) tw_162 (by decide) (by decide) rfl rfl (Nat.le_of_ble_eq_true rfl) ⟨Nat.le_refl _, Nat.le_refl _⟩ dW_begin_13 ?_
  refine wr_if_ne C (tgt := 21) dW_begin_16 (by decide) (fun h2 => ?_) (fun h2 => ?_)
  ·
    refine wr_aload_n C 0 dW_begin_21 rfl rfl ?_
    refine wf_WC_transactions C  (Or.inl tw_121) dW_begin_22 ?_
    refine wr_iload_n C 1 dW_begin_25 rfl rfl ?_
    refine wa_txs C (by omega) dW_begin_26 ?_
    refine wr_iconst C (v := nI 1) dW_begin_27 (by decide) ?_
    refine wp_Tx_state C (by omega) (Or.inr ⟨_, tw_66⟩) dW_begin_28 ?_
    generalize hs1 : wc_st σ 8 t 0 (nI 1) = σ1
    refine wr_aload_n C 0 dW_begin_31 rfl rfl ?_
    refine wf_WC_transactions C  (Or.inl tw_121) dW_begin_32 ?_
    refine wr_iload_n C 1 dW_begin_35 rfl rfl ?_
    refine wa_txs C (by omega) dW_begin_36 ?_
    refine wr_aload_n C 0 dW_begin_37 rfl rfl ?_
    refine wf_WC_begun C  (Or.inl tw_124) dW_begin_38 ?_
    refine wp_Tx_birth C (by omega) (Or.inr ⟨_, tw_68⟩) dW_begin_41 ?_
    generalize hs2 : wc_st σ1 9 t 0 (σ1 24 0 0) = σ2
    refine wr_aload_n C 0 dW_begin_44 rfl rfl ?_
    refine wr_dup C dW_begin_45 rfl ?_
    refine wf_WC_begun C  (Or.inl tw_124) dW_begin_46 ?_
    refine wr_iconst C (v := nI 1) dW_begin_49 (by decide) ?_
    refine wr_iadd C (z := (σ2 24 0 0) + (nI 1)) dW_begin_50 rfl ?_
    refine wp_WC_begun C  (Or.inl tw_124) dW_begin_51 ?_
    generalize hs3 : wc_st σ2 24 0 0 ((σ2 24 0 0) + (nI 1)) = σ3
    refine wr_iconst C (v := nI 1) dW_begin_54 (by decide) ?_
    exact wr_iret C hr rfl hlk dW_begin_55 (by subst_vars; first | (simp [fc_begin, wc_nIe, wc_nI0, wc_nIm, *]; done) | (simp_all [fc_begin, wc_nIe, wc_nI0, wc_nIm]; done)) (by first | rfl | (subst_vars; first | (simp [fc_begin, fc_begin1, wc_nIe, wc_nI0, wc_nIm, *]; done) | (simp_all [fc_begin, fc_begin1, wc_nIe, wc_nI0, wc_nIm]; done))) (by first | rfl | (subst_vars; first | (simp [fc_begin, fc_begin1, wc_nIe, wc_nI0, wc_nIm, *]; done) | (simp_all [fc_begin, fc_begin1, wc_nIe, wc_nI0, wc_nIm]; done)))
  ·
    refine wr_iconst C (v := nI 0) dW_begin_19 (by decide) ?_
    exact wr_iret C hr rfl hlk dW_begin_20 (by subst_vars; first | (simp [fc_begin, wc_nIe, wc_nI0, wc_nIm, *]; done) | (simp_all [fc_begin, wc_nIe, wc_nI0, wc_nIm]; done)) (by first | rfl | (subst_vars; first | (simp [fc_begin, fc_begin1, wc_nIe, wc_nI0, wc_nIm, *]; done) | (simp_all [fc_begin, fc_begin1, wc_nIe, wc_nI0, wc_nIm]; done))) (by first | rfl | (subst_vars; first | (simp [fc_begin, fc_begin1, wc_nIe, wc_nI0, wc_nIm, *]; done) | (simp_all [fc_begin, fc_begin1, wc_nIe, wc_nI0, wc_nIm]; done)))
set_option maxRecDepth 100000 in
set_option maxHeartbeats 4000000 in
theorem mc_readO (l : Launch) (Γ : wc_G) (σ μ : wc_St) (a b : Int32) (ha : a < 0 ∨ nI 5 ≤ a) : wc_M l yW_read cW_read 3 (some .long) 3 Γ [.ref (Γ.2.2 0), .int a, .int b] σ μ (some (.long 1099511627776)) (σ) μ := by
  refine wc_enter "WaitedCommits" (by decide) rfl (Nat.le_of_ble_eq_true rfl) ?_
  intro P0 E0 S0 M0 A0 B0 T0 K0 C hr hlk
  refine wr_vs (vs' := [(0, .ref (Γ.2.2 0)), (1, .int a), (2, .int b)]) rfl ?_
  refine wr_aload_n C 0 dW_read_0 rfl rfl ?_
  refine wr_iload_n C 1 dW_read_1 rfl rfl ?_
  refine wr_callV1 C (As := [.int a]) (rest := []) (mc_isActiveO l Γ σ μ a ha) cb_W_isActive (Or.inl tw_174) tw_175 tw_532 (by omega) (wc_c_WC) rfl (by decide) (by decide) rfl rfl (Nat.le_of_ble_eq_true rfl) ⟨Nat.le_refl _, Nat.le_refl _⟩ dW_read_2 ?_
  refine wr_if_eq C (tgt := 30) dW_read_5 (by decide) (fun _ => ?_) (fun h1 => absurd (by decide) h1)
  refine wr_ldc2 C dW_read_30 tw_198 ?_
  exact wr_lret C hr hlk dW_read_33 (by rfl) (by rfl) (by rfl)
set_option maxRecDepth 100000 in
set_option maxHeartbeats 4000000 in
theorem mc_readK (l : Launch) (Γ : wc_G) (σ μ : wc_St) {t : Nat} (ht : t < 5) (b : Int32) (hb : b < 0 ∨ nI 9 ≤ b) : wc_M l yW_read cW_read 3 (some .long) 3 Γ [.ref (Γ.2.2 0), .int (nI t), .int b] σ μ (some (.long 1099511627776)) (σ) μ := by
  refine wc_enter "WaitedCommits" (by decide) rfl (Nat.le_of_ble_eq_true rfl) ?_
  intro P0 E0 S0 M0 A0 B0 T0 K0 C hr hlk
  refine wr_vs (vs' := [(0, .ref (Γ.2.2 0)), (1, .int (nI t)), (2, .int b)]) rfl ?_
  refine wr_aload_n C 0 dW_read_0 rfl rfl ?_
  refine wr_iload_n C 1 dW_read_1 rfl rfl ?_
  refine wr_callV1 C (As := [.int (nI t)]) (rest := []) (mc_isActiveI l Γ σ μ (t := t) (by omega)) cb_W_isActive (Or.inl tw_174) tw_175 tw_532 (by omega) (wc_c_WC) rfl (by decide) (by decide) rfl rfl (Nat.le_of_ble_eq_true rfl) ⟨Nat.le_refl _, Nat.le_refl _⟩ dW_read_2 ?_
  refine wr_if_eq C (tgt := 30) dW_read_5 (by decide) (fun h1 => ?_) (fun h1 => ?_)
  ·
    refine wr_ldc2 C dW_read_30 tw_198 ?_
    exact wr_lret C hr hlk dW_read_33 (by rfl) (by rfl) (by rfl)
  ·
    refine wr_iload_n C 2 dW_read_8 rfl rfl ?_
    refine wr_callS1 C (As := [.int b]) (rest := []) (mc_isKeyO l Γ σ μ b hb) cb_W_isKey (Or.inl tw_177) tw_178 (by decide) (by decide) rfl rfl (Nat.le_of_ble_eq_true rfl) ⟨Nat.le_refl _, Nat.le_refl _⟩ dW_read_9 ?_
    refine wr_if_eq C (tgt := 30) dW_read_12 (by decide) (fun _ => ?_) (fun h2 => absurd (by decide) h2)
    refine wr_ldc2 C dW_read_30 tw_198 ?_
    exact wr_lret C hr hlk dW_read_33 (by rfl) (by rfl) (by rfl)
set_option maxRecDepth 100000 in
set_option maxHeartbeats 4000000 in
theorem mc_readI (l : Launch) (Γ : wc_G) (σ μ : wc_St) {t : Nat} (ht : t < 5) {k : Nat} (hk : k < 9) : wc_M l yW_read cW_read 3 (some .long) 3 Γ [.ref (Γ.2.2 0), .int (nI t), .int (nI k)] σ μ (some (.long ((fc_read σ t k).1))) ((fc_read σ t k).2) μ := by
  refine wc_enter "WaitedCommits" (by decide) rfl (Nat.le_of_ble_eq_true rfl) ?_
  intro P0 E0 S0 M0 A0 B0 T0 K0 C hr hlk
  refine wr_vs (vs' := [(0, .ref (Γ.2.2 0)), (1, .int (nI t)), (2, .int (nI k))]) rfl ?_
  refine wr_aload_n C 0 dW_read_0 rfl rfl ?_
  refine wr_iload_n C 1 dW_read_1 rfl rfl ?_
  refine wr_callV1 C (As := [.int (nI t)]) (rest := []) (mc_isActiveI l Γ σ μ (t := t) (by omega)) cb_W_isActive (Or.inl tw_174) tw_175 tw_532 (by omega) (wc_c_WC) rfl (by decide) (by decide) rfl rfl (Nat.le_of_ble_eq_true rfl) ⟨Nat.le_refl _, Nat.le_refl _⟩ dW_read_2 ?_
  refine wr_if_eq C (tgt := 30) dW_read_5 (by decide) (fun h1 => ?_) (fun h1 => ?_)
  ·
    refine wr_ldc2 C dW_read_30 tw_198 ?_
    exact wr_lret C hr hlk dW_read_33 (by subst_vars; first | (simp [fc_read, wc_nIe, wc_nI0, wc_nIm, *]; done) | (simp_all [fc_read, wc_nIe, wc_nI0, wc_nIm]; done)) (by first | rfl | (subst_vars; first | (simp [fc_read, wc_nIe, wc_nI0, wc_nIm, *]; done) | (simp_all [fc_read, wc_nIe, wc_nI0, wc_nIm]; done))) (by first | rfl | (subst_vars; first | (simp [fc_read, wc_nIe, wc_nI0, wc_nIm, *]; done) | (simp_all [fc_read, wc_nIe, wc_nI0, wc_nIm]; done)))
  ·
    refine wr_iload_n C 2 dW_read_8 rfl rfl ?_
    refine wr_callS1 C (As := [.int (nI k)]) (rest := []) (mc_isKeyI l Γ σ μ (j := k) (by omega)) cb_W_isKey (Or.inl tw_177) tw_178 (by decide) (by decide) rfl rfl (Nat.le_of_ble_eq_true rfl) ⟨Nat.le_refl _, Nat.le_refl _⟩ dW_read_9 ?_
    refine wr_if_eq C (tgt := 30) dW_read_12 (by decide) (fun h2 => absurd h2 (by decide)) (fun _ => ?_)
    refine wr_aload_n C 0 dW_read_15 rfl rfl ?_
    refine wr_aload_n C 0 dW_read_16 rfl rfl ?_
    refine wf_WC_transactions C  (Or.inl tw_121) dW_read_17 ?_
    refine wr_iload_n C 1 dW_read_20 rfl rfl ?_
    refine wa_txs C (by omega) dW_read_21 ?_
    refine wr_iload_n C 2 dW_read_22 rfl rfl ?_
    refine wr_iconst C (v := nI 1) dW_read_23 (by decide) ?_
    refine wr_callV1 C (As := [.ref (Γ.2.2 (35 + t)), .int (nI k), .int (nI 1)]) (rest := []) (mc_lock l Γ σ μ (t := t) (k := k) (by omega) (by omega) (nI 1)) cb_W_lock (Or.inl tw_180) tw_181 tw_533 (by omega) (wc_c_WC) rfl (by decide) (by decide) rfl rfl (Nat.le_of_ble_eq_true rfl) ⟨Nat.le_refl _, Nat.le_refl _⟩ dW_read_24 ?_
    generalize hs1 : (fc_lock σ t k (nI 1)).2 = σ1
    refine wr_if_ne C (tgt := 34) dW_read_27 (by decide) (fun h3 => ?_) (fun h3 => ?_)
    ·
      refine wr_aload_n C 0 dW_read_34 rfl rfl ?_
      refine wf_WC_transactions C  (Or.inl tw_121) dW_read_35 ?_
      refine wr_iload_n C 1 dW_read_38 rfl rfl ?_
      refine wa_txs C (by omega) dW_read_39 ?_
      refine wf_Tx_locks C (by omega) (Or.inr ⟨_, tw_80⟩) dW_read_40 ?_
      refine wr_iload_n C 2 dW_read_43 rfl rfl ?_
      refine wa_locks C (by omega) (by omega) dW_read_44 ?_
      refine wr_iconst C (v := nI 2) dW_read_45 (by decide) ?_
      refine wr_icmp_ne C (tgt := 62) dW_read_46 (by decide) (fun h4 => ?_) (fun h4 => ?_)
      ·
        refine wr_aload_n C 0 dW_read_62 rfl rfl ?_
        refine wf_WC_keys C  (Or.inl tw_120) dW_read_63 ?_
        refine wr_iload_n C 2 dW_read_66 rfl rfl ?_
        refine wa_keys C (by omega) dW_read_67 ?_
        refine wf_Key_values C (by omega) (Or.inr ⟨_, tw_52⟩) dW_read_68 ?_
        refine wr_iconst C (v := nI 0) dW_read_71 (by decide) ?_
        refine wa_values C (by omega) (by omega) dW_read_72 ?_
        refine wr_i2l C dW_read_73 ?_
        exact wr_lret C hr hlk dW_read_74 (by subst_vars; first | (simp [fc_read, wc_nIe, wc_nI0, wc_nIm, *]; done) | (simp_all [fc_read, wc_nIe, wc_nI0, wc_nIm]; done)) (by first | rfl | (subst_vars; first | (simp [fc_read, wc_nIe, wc_nI0, wc_nIm, *]; done) | (simp_all [fc_read, wc_nIe, wc_nI0, wc_nIm]; done))) (by first | rfl | (subst_vars; first | (simp [fc_read, wc_nIe, wc_nI0, wc_nIm, *]; done) | (simp_all [fc_read, wc_nIe, wc_nI0, wc_nIm]; done)))
      ·
        refine wr_aload_n C 0 dW_read_49 rfl rfl ?_
        refine wf_WC_transactions C  (Or.inl tw_121) dW_read_50 ?_
        refine wr_iload_n C 1 dW_read_53 rfl rfl ?_
        refine wa_txs C (by omega) dW_read_54 ?_
        refine wf_Tx_written C (by omega) (Or.inr ⟨_, tw_82⟩) dW_read_55 ?_
        refine wr_iload_n C 2 dW_read_58 rfl rfl ?_
        refine wa_written C (by omega) (by omega) dW_read_59 ?_
        refine wr_i2l C dW_read_60 ?_
        exact wr_lret C hr hlk dW_read_61 (by subst_vars; first | (simp [fc_read, wc_nIe, wc_nI0, wc_nIm, *]; done) | (simp_all [fc_read, wc_nIe, wc_nI0, wc_nIm]; done)) (by first | rfl | (subst_vars; first | (simp [fc_read, wc_nIe, wc_nI0, wc_nIm, *]; done) | (simp_all [fc_read, wc_nIe, wc_nI0, wc_nIm]; done))) (by first | rfl | (subst_vars; first | (simp [fc_read, wc_nIe, wc_nI0, wc_nIm, *]; done) | (simp_all [fc_read, wc_nIe, wc_nI0, wc_nIm]; done)))
    ·
      refine wr_ldc2 C dW_read_30 tw_198 ?_
      exact wr_lret C hr hlk dW_read_33 (by subst_vars; first | (simp [fc_read, wc_nIe, wc_nI0, wc_nIm, *]; done) | (simp_all [fc_read, wc_nIe, wc_nI0, wc_nIm]; done)) (by first | rfl | (subst_vars; first | (simp [fc_read, wc_nIe, wc_nI0, wc_nIm, *]; done) | (simp_all [fc_read, wc_nIe, wc_nI0, wc_nIm]; done))) (by first | rfl | (subst_vars; first | (simp [fc_read, wc_nIe, wc_nI0, wc_nIm, *]; done) | (simp_all [fc_read, wc_nIe, wc_nI0, wc_nIm]; done)))
set_option maxRecDepth 100000 in
set_option maxHeartbeats 4000000 in
theorem mc_writeO (l : Launch) (Γ : wc_G) (σ μ : wc_St) (a b d : Int32) (ha : a < 0 ∨ nI 5 ≤ a) : wc_M l yW_write cW_write 4 (some .boolean) 3 Γ [.ref (Γ.2.2 0), .int a, .int b, .int d] σ μ (some (.int (nI 0))) (σ) μ := by
  refine wc_enter "WaitedCommits" (by decide) rfl (Nat.le_of_ble_eq_true rfl) ?_
  intro P0 E0 S0 M0 A0 B0 T0 K0 C hr hlk
  refine wr_vs (vs' := [(0, .ref (Γ.2.2 0)), (1, .int a), (2, .int b), (3, .int d)]) rfl ?_
  refine wr_aload_n C 0 dW_write_0 rfl rfl ?_
  refine wr_iload_n C 1 dW_write_1 rfl rfl ?_
  refine wr_callV1 C (As := [.int a]) (rest := []) (mc_isActiveO l Γ σ μ a ha) cb_W_isActive (Or.inl tw_174) tw_175 tw_532 (by omega) (wc_c_WC) rfl (by decide) (by decide) rfl rfl (Nat.le_of_ble_eq_true rfl) ⟨Nat.le_refl _, Nat.le_refl _⟩ dW_write_2 ?_
  refine wr_if_eq C (tgt := 30) dW_write_5 (by decide) (fun _ => ?_) (fun h1 => absurd (by decide) h1)
  refine wr_iconst C (v := nI 0) dW_write_30 (by decide) ?_
  exact wr_iret C hr rfl hlk dW_write_31 (by rfl) (by rfl) (by rfl)
set_option maxRecDepth 100000 in
set_option maxHeartbeats 4000000 in
theorem mc_writeK (l : Launch) (Γ : wc_G) (σ μ : wc_St) {t : Nat} (ht : t < 5) (b d : Int32) (hb : b < 0 ∨ nI 9 ≤ b) : wc_M l yW_write cW_write 4 (some .boolean) 3 Γ [.ref (Γ.2.2 0), .int (nI t), .int b, .int d] σ μ (some (.int (nI 0))) (σ) μ := by
  refine wc_enter "WaitedCommits" (by decide) rfl (Nat.le_of_ble_eq_true rfl) ?_
  intro P0 E0 S0 M0 A0 B0 T0 K0 C hr hlk
  refine wr_vs (vs' := [(0, .ref (Γ.2.2 0)), (1, .int (nI t)), (2, .int b), (3, .int d)]) rfl ?_
  refine wr_aload_n C 0 dW_write_0 rfl rfl ?_
  refine wr_iload_n C 1 dW_write_1 rfl rfl ?_
  refine wr_callV1 C (As := [.int (nI t)]) (rest := []) (mc_isActiveI l Γ σ μ (t := t) (by omega)) cb_W_isActive (Or.inl tw_174) tw_175 tw_532 (by omega) (wc_c_WC) rfl (by decide) (by decide) rfl rfl (Nat.le_of_ble_eq_true rfl) ⟨Nat.le_refl _, Nat.le_refl _⟩ dW_write_2 ?_
  refine wr_if_eq C (tgt := 30) dW_write_5 (by decide) (fun h1 => ?_) (fun h1 => ?_)
  ·
    refine wr_iconst C (v := nI 0) dW_write_30 (by decide) ?_
    exact wr_iret C hr rfl hlk dW_write_31 (by rfl) (by rfl) (by rfl)
  ·
    refine wr_iload_n C 2 dW_write_8 rfl rfl ?_
    refine wr_callS1 C (As := [.int b]) (rest := []) (mc_isKeyO l Γ σ μ b hb) cb_W_isKey (Or.inl tw_177) tw_178 (by decide) (by decide) rfl rfl (Nat.le_of_ble_eq_true rfl) ⟨Nat.le_refl _, Nat.le_refl _⟩ dW_write_9 ?_
    refine wr_if_eq C (tgt := 30) dW_write_12 (by decide) (fun _ => ?_) (fun h2 => absurd (by decide) h2)
    refine wr_iconst C (v := nI 0) dW_write_30 (by decide) ?_
    exact wr_iret C hr rfl hlk dW_write_31 (by rfl) (by rfl) (by rfl)
set_option maxRecDepth 100000 in
set_option maxHeartbeats 4000000 in
theorem mc_writeI (l : Launch) (Γ : wc_G) (σ μ : wc_St) {t : Nat} (ht : t < 5) {k : Nat} (hk : k < 9) (d : Int32) : wc_M l yW_write cW_write 4 (some .boolean) 3 Γ [.ref (Γ.2.2 0), .int (nI t), .int (nI k), .int d] σ μ (some (.int ((fc_write σ t k d).1))) ((fc_write σ t k d).2) μ := by
  refine wc_enter "WaitedCommits" (by decide) rfl (Nat.le_of_ble_eq_true rfl) ?_
  intro P0 E0 S0 M0 A0 B0 T0 K0 C hr hlk
  refine wr_vs (vs' := [(0, .ref (Γ.2.2 0)), (1, .int (nI t)), (2, .int (nI k)), (3, .int d)]) rfl ?_
  refine wr_aload_n C 0 dW_write_0 rfl rfl ?_
  refine wr_iload_n C 1 dW_write_1 rfl rfl ?_
  refine wr_callV1 C (As := [.int (nI t)]) (rest := []) (mc_isActiveI l Γ σ μ (t := t) (by omega)) cb_W_isActive (Or.inl tw_174) tw_175 tw_532 (by omega) (wc_c_WC) rfl (by decide) (by decide) rfl rfl (Nat.le_of_ble_eq_true rfl) ⟨Nat.le_refl _, Nat.le_refl _⟩ dW_write_2 ?_
  refine wr_if_eq C (tgt := 30) dW_write_5 (by decide) (fun h1 => ?_) (fun h1 => ?_)
  ·
    refine wr_iconst C (v := nI 0) dW_write_30 (by decide) ?_
    exact wr_iret C hr rfl hlk dW_write_31 (by subst_vars; first | (simp [fc_write, wc_nIe, wc_nI0, wc_nIm, *]; done) | (simp_all [fc_write, wc_nIe, wc_nI0, wc_nIm]; done)) (by first | rfl | (subst_vars; first | (simp [fc_write, wc_nIe, wc_nI0, wc_nIm, *]; done) | (simp_all [fc_write, wc_nIe, wc_nI0, wc_nIm]; done))) (by first | rfl | (subst_vars; first | (simp [fc_write, wc_nIe, wc_nI0, wc_nIm, *]; done) | (simp_all [fc_write, wc_nIe, wc_nI0, wc_nIm]; done)))
  ·
    refine wr_iload_n C 2 dW_write_8 rfl rfl ?_
    refine wr_callS1 C (As := [.int (nI k)]) (rest := []) (mc_isKeyI l Γ σ μ (j := k) (by omega)) cb_W_isKey (Or.inl tw_177) tw_178 (by decide) (by decide) rfl rfl (Nat.le_of_ble_eq_true rfl) ⟨Nat.le_refl _, Nat.le_refl _⟩ dW_write_9 ?_
    refine wr_if_eq C (tgt := 30) dW_write_12 (by decide) (fun h2 => absurd h2 (by decide)) (fun _ => ?_)
    refine wr_aload_n C 0 dW_write_15 rfl rfl ?_
    refine wr_aload_n C 0 dW_write_16 rfl rfl ?_
    refine wf_WC_transactions C  (Or.inl tw_121) dW_write_17 ?_
    refine wr_iload_n C 1 dW_write_20 rfl rfl ?_
    refine wa_txs C (by omega) dW_write_21 ?_
    refine wr_iload_n C 2 dW_write_22 rfl rfl ?_
    refine wr_iconst C (v := nI 2) dW_write_23 (by decide) ?_
    refine wr_callV1 C (As := [.ref (Γ.2.2 (35 + t)), .int (nI k), .int (nI 2)]) (rest := []) (mc_lock l Γ σ μ (t := t) (k := k) (by omega) (by omega) (nI 2)) cb_W_lock (Or.inl tw_180) tw_181 tw_533 (by omega) (wc_c_WC) rfl (by decide) (by decide) rfl rfl (Nat.le_of_ble_eq_true rfl) ⟨Nat.le_refl _, Nat.le_refl _⟩ dW_write_24 ?_
    generalize hs1 : (fc_lock σ t k (nI 2)).2 = σ1
    refine wr_if_ne C (tgt := 32) dW_write_27 (by decide) (fun h3 => ?_) (fun h3 => ?_)
    ·
      refine wr_aload_n C 0 dW_write_32 rfl rfl ?_
      refine wf_WC_transactions C  (Or.inl tw_121) dW_write_33 ?_
      refine wr_iload_n C 1 dW_write_36 rfl rfl ?_
      refine wa_txs C (by omega) dW_write_37 ?_
      refine wf_Tx_written C (by omega) (Or.inr ⟨_, tw_82⟩) dW_write_38 ?_
      refine wr_iload_n C 2 dW_write_41 rfl rfl ?_
      refine wr_iload_n C 3 dW_write_42 rfl rfl ?_
      refine ws_written C (by omega) (by omega) dW_write_43 ?_
      generalize hs2 : wc_st σ1 16 t k d = σ2
      refine wr_iconst C (v := nI 1) dW_write_44 (by decide) ?_
      exact wr_iret C hr rfl hlk dW_write_45 (by subst_vars; first | (simp [fc_write, wc_nIe, wc_nI0, wc_nIm, *]; done) | (simp_all [fc_write, wc_nIe, wc_nI0, wc_nIm]; done)) (by first | rfl | (subst_vars; first | (simp [fc_write, wc_nIe, wc_nI0, wc_nIm, *]; done) | (simp_all [fc_write, wc_nIe, wc_nI0, wc_nIm]; done))) (by first | rfl | (subst_vars; first | (simp [fc_write, wc_nIe, wc_nI0, wc_nIm, *]; done) | (simp_all [fc_write, wc_nIe, wc_nI0, wc_nIm]; done)))
    ·
      refine wr_iconst C (v := nI 0) dW_write_30 (by decide) ?_
      exact wr_iret C hr rfl hlk dW_write_31 (by subst_vars; first | (simp [fc_write, wc_nIe, wc_nI0, wc_nIm, *]; done) | (simp_all [fc_write, wc_nIe, wc_nI0, wc_nIm]; done)) (by first | rfl | (subst_vars; first | (simp [fc_write, wc_nIe, wc_nI0, wc_nIm, *]; done) | (simp_all [fc_write, wc_nIe, wc_nI0, wc_nIm]; done))) (by first | rfl | (subst_vars; first | (simp [fc_write, wc_nIe, wc_nI0, wc_nIm, *]; done) | (simp_all [fc_write, wc_nIe, wc_nI0, wc_nIm]; done)))
set_option maxRecDepth 100000 in
set_option maxHeartbeats 4000000 in
theorem mc_commitO (l : Launch) (Γ : wc_G) (σ μ : wc_St) (a : Int32) (ha : a < 0 ∨ nI 5 ≤ a) : wc_M l yW_commit cW_commit 3 (some .boolean) 4 Γ [.ref (Γ.2.2 0), .int a] σ μ (some (.int (nI 0))) (σ) μ := by
  refine wc_enter "WaitedCommits" (by decide) rfl (Nat.le_of_ble_eq_true rfl) ?_
  intro P0 E0 S0 M0 A0 B0 T0 K0 C hr hlk
  refine wr_vs (vs' := [(0, .ref (Γ.2.2 0)), (1, .int a)]) rfl ?_
  refine wr_aload_n C 0 dW_commit_0 rfl rfl ?_
  refine wr_iload_n C 1 dW_commit_1 rfl rfl ?_
  refine wr_callV1 C (As := [.int a]) (rest := []) (mc_isActiveO l Γ σ μ a ha) cb_W_isActive (Or.inl tw_174) tw_175 tw_532 (by omega) (wc_c_WC) rfl (by decide) (by decide) rfl rfl (Nat.le_of_ble_eq_true rfl) ⟨Nat.le_refl _, Nat.le_refl _⟩ dW_commit_2 ?_
  refine wr_if_ne C (tgt := 10) dW_commit_5 (by decide) (fun h1 => absurd (by decide) h1) (fun _ => ?_)
  refine wr_iconst C (v := nI 0) dW_commit_8 (by decide) ?_
  exact wr_iret C hr rfl hlk dW_commit_9 (by rfl) (by rfl) (by rfl)
set_option maxRecDepth 100000 in
set_option maxHeartbeats 4000000 in
theorem mc_commitI (l : Launch) (Γ : wc_G) (σ μ : wc_St) {t : Nat} (ht : t < 5) : wc_M l yW_commit cW_commit 3 (some .boolean) 4 Γ [.ref (Γ.2.2 0), .int (nI t)] σ μ (some (.int ((fc_commit σ t).1))) ((fc_commit σ t).2) μ := by
  refine wc_enter "WaitedCommits" (by decide) rfl (Nat.le_of_ble_eq_true rfl) ?_
  intro P0 E0 S0 M0 A0 B0 T0 K0 C hr hlk
  refine wr_vs (vs' := [(0, .ref (Γ.2.2 0)), (1, .int (nI t))]) rfl ?_
  refine wr_aload_n C 0 dW_commit_0 rfl rfl ?_
  refine wr_iload_n C 1 dW_commit_1 rfl rfl ?_
  refine wr_callV1 C (As := [.int (nI t)]) (rest := []) (mc_isActiveI l Γ σ μ (t := t) (by omega)) cb_W_isActive (Or.inl tw_174) tw_175 tw_532 (by omega) (wc_c_WC) rfl (by decide) (by decide) rfl rfl (Nat.le_of_ble_eq_true rfl) ⟨Nat.le_refl _, Nat.le_refl _⟩ dW_commit_2 ?_
  refine wr_if_ne C (tgt := 10) dW_commit_5 (by decide) (fun h1 => ?_) (fun h1 => ?_)
  ·
    refine wr_aload_n C 0 dW_commit_10 rfl rfl ?_
    refine wf_WC_transactions C  (Or.inl tw_121) dW_commit_11 ?_
    refine wr_iload_n C 1 dW_commit_14 rfl rfl ?_
    refine wa_txs C (by omega) dW_commit_15 ?_
    refine wr_callV1 C (As := []) (rest := []) (mc_least l Γ σ μ (t := t) (by omega)) cb_T_leastParticipant (Or.inr ⟨_, tw_164⟩) tw_165 tw_530 (by omega) (wc_c_Tx (by omega)) rfl (by decide) (by decide) rfl rfl (Nat.le_of_ble_eq_true rfl) ⟨Nat.le_refl _, Nat.le_refl _⟩ dW_commit_16 ?_
    refine wr_istore_n C (vs' := [(2, .int (fc_least σ t)), (0, .ref (Γ.2.2 0)), (1, .int (nI t))]) dW_commit_19 rfl (by decide) rfl ?_
    refine wr_iload_n C 0 dW_commit_20 rfl rfl ?_
    refine wr_iconst C (v := -1) dW_commit_21 (by decide) ?_
    refine wr_icmp_eq C (tgt := 37) dW_commit_22 (by decide) (fun h2 => ?_) (fun h2 => ?_)
    ·
      refine wr_iconst C (v := nI 0) dW_commit_37 (by decide) ?_
      exact wr_iret C hr rfl hlk dW_commit_38 (by subst_vars; (try rw [hcc] at h2); first | (simp [fc_commit, *]; done) | (simp [fc_commit, nI_clamp (show c < 2 ^ 31 by omega), *]; done) | (simp_all [fc_commit]; done)) (by first | rfl | (subst_vars; (try rw [hcc] at h2); first | (simp [fc_commit, *]; done) | (simp [fc_commit, nI_clamp (show c < 2 ^ 31 by omega), *]; done) | (simp_all [fc_commit]; done))) (by first | rfl | (subst_vars; (try rw [hcc] at h2); first | (simp [fc_commit, *]; done) | (simp [fc_commit, nI_clamp (show c < 2 ^ 31 by omega), *]; done) | (simp_all [fc_commit]; done)))
    ·
      obtain ⟨c, hc3, hcc⟩ := fc_least_some h2
      refine wr_vs (vs' := [(2, .int (nI c)), (0, .ref (Γ.2.2 0)), (1, .int (nI t))]) (by rw [hcc]) ?_
      refine wr_aload_n C 1 dW_commit_25 rfl rfl ?_
      refine wf_WC_sites C  (Or.inl tw_119) dW_commit_26 ?_
      refine wr_iload_n C 0 dW_commit_29 rfl rfl ?_
      refine wa_sites C (by omega) dW_commit_30 ?_
      refine wf_Site_isUp C (by omega) (Or.inr ⟨_, tw_38⟩) dW_commit_31 ?_
      refine wr_if_ne C (tgt := 39) dW_commit_34 (by decide) (fun h3 => ?_) (fun h3 => ?_)
      ·
        refine wr_aload_n C 1 dW_commit_39 rfl rfl ?_
        refine wf_WC_transactions C  (Or.inl tw_121) dW_commit_40 ?_
        refine wr_iload_n C 2 dW_commit_43 rfl rfl ?_
        refine wa_txs C (by omega) dW_commit_44 ?_
        refine wr_iload_n C 0 dW_commit_45 rfl rfl ?_
        refine wp_Tx_coordinator C (by omega) (Or.inr ⟨_, tw_70⟩) dW_commit_46 ?_
        generalize hs1 : wc_st σ 10 t 0 (nI c) = σ1
        refine wr_aload_n C 1 dW_commit_49 rfl rfl ?_
        refine wr_iload_n C 2 dW_commit_50 rfl rfl ?_
        refine wr_callV0 C (As := [.int (nI t)]) (rest := []) (mc_prepare l Γ σ1 μ (t := t) (c := c) (by omega) (by omega) (by subst_vars; simp [wc_st])) cb_W_prepare (Or.inl tw_207) tw_208 tw_536 (by omega) (wc_c_WC) rfl (by decide) (by decide) rfl rfl (Nat.le_of_ble_eq_true rfl) ⟨Nat.le_refl _, Nat.le_refl _⟩ dW_commit_51 ?_
        generalize hs2 : fc_prepare σ1 t c = σ2
        refine wr_iconst C (v := nI 1) dW_commit_54 (by decide) ?_
        exact wr_iret C hr rfl hlk dW_commit_55 (by subst_vars; (try rw [hcc] at h2); first | (simp [fc_commit, *]; done) | (simp [fc_commit, nI_clamp (show c < 2 ^ 31 by omega), *]; done) | (simp_all [fc_commit]; done)) (by first | rfl | (subst_vars; (try rw [hcc] at h2); first | (simp [fc_commit, *]; done) | (simp [fc_commit, nI_clamp (show c < 2 ^ 31 by omega), *]; done) | (simp_all [fc_commit]; done))) (by first | rfl | (subst_vars; (try rw [hcc] at h2); first | (simp [fc_commit, *]; done) | (simp [fc_commit, nI_clamp (show c < 2 ^ 31 by omega), *]; done) | (simp_all [fc_commit]; done)))
      ·
        refine wr_iconst C (v := nI 0) dW_commit_37 (by decide) ?_
        exact wr_iret C hr rfl hlk dW_commit_38 (by subst_vars; (try rw [hcc] at h2); first | (simp [fc_commit, *]; done) | (simp [fc_commit, nI_clamp (show c < 2 ^ 31 by omega), *]; done) | (simp_all [fc_commit]; done)) (by first | rfl | (subst_vars; (try rw [hcc] at h2); first | (simp [fc_commit, *]; done) | (simp [fc_commit, nI_clamp (show c < 2 ^ 31 by omega), *]; done) | (simp_all [fc_commit]; done))) (by first | rfl | (subst_vars; (try rw [hcc] at h2); first | (simp [fc_commit, *]; done) | (simp [fc_commit, nI_clamp (show c < 2 ^ 31 by omega), *]; done) | (simp_all [fc_commit]; done)))
  ·
    refine wr_iconst C (v := nI 0) dW_commit_8 (by decide) ?_
    exact wr_iret C hr rfl hlk dW_commit_9 (by subst_vars; (try rw [hcc] at h2); first | (simp [fc_commit, *]; done) | (simp [fc_commit, nI_clamp (show c < 2 ^ 31 by omega), *]; done) | (simp_all [fc_commit]; done)) (by first | rfl | (subst_vars; (try rw [hcc] at h2); first | (simp [fc_commit, *]; done) | (simp [fc_commit, nI_clamp (show c < 2 ^ 31 by omega), *]; done) | (simp_all [fc_commit]; done))) (by first | rfl | (subst_vars; (try rw [hcc] at h2); first | (simp [fc_commit, *]; done) | (simp [fc_commit, nI_clamp (show c < 2 ^ 31 by omega), *]; done) | (simp_all [fc_commit]; done)))
set_option maxRecDepth 100000 in
set_option maxHeartbeats 4000000 in
theorem mc_abortO (l : Launch) (Γ : wc_G) (σ μ : wc_St) (a : Int32) (ha : a < 0 ∨ nI 5 ≤ a) : wc_M l yW_abort cW_abort 2 (some .boolean) 2 Γ [.ref (Γ.2.2 0), .int a] σ μ (some (.int (nI 0))) (σ) μ := by
  refine wc_enter "WaitedCommits" (by decide) rfl (Nat.le_of_ble_eq_true rfl) ?_
  intro P0 E0 S0 M0 A0 B0 T0 K0 C hr hlk
  refine wr_vs (vs' := [(0, .ref (Γ.2.2 0)), (1, .int a)]) rfl ?_
  refine wr_aload_n C 0 dW_abort_0 rfl rfl ?_
  refine wr_iload_n C 1 dW_abort_1 rfl rfl ?_
  refine wr_callV1 C (As := [.int a]) (rest := []) (mc_isActiveO l Γ σ μ a ha) cb_W_isActive (Or.inl tw_174) tw_175 tw_532 (by omega) (wc_c_WC) rfl (by decide) (by decide) rfl rfl (Nat.le_of_ble_eq_true rfl) ⟨Nat.le_refl _, Nat.le_refl _⟩ dW_abort_2 ?_
  refine wr_if_ne C (tgt := 10) dW_abort_5 (by decide) (fun h1 => absurd (by decide) h1) (fun _ => ?_)
  refine wr_iconst C (v := nI 0) dW_abort_8 (by decide) ?_
  exact wr_iret C hr rfl hlk dW_abort_9 (by rfl) (by rfl) (by rfl)
set_option maxRecDepth 100000 in
set_option maxHeartbeats 4000000 in
theorem mc_abortI (l : Launch) (Γ : wc_G) (σ μ : wc_St) {t : Nat} (ht : t < 5) : wc_M l yW_abort cW_abort 2 (some .boolean) 2 Γ [.ref (Γ.2.2 0), .int (nI t)] σ μ (some (.int ((fc_abort σ t).1))) ((fc_abort σ t).2) μ := by
  refine wc_enter "WaitedCommits" (by decide) rfl (Nat.le_of_ble_eq_true rfl) ?_
  intro P0 E0 S0 M0 A0 B0 T0 K0 C hr hlk
  refine wr_vs (vs' := [(0, .ref (Γ.2.2 0)), (1, .int (nI t))]) rfl ?_
  refine wr_aload_n C 0 dW_abort_0 rfl rfl ?_
  refine wr_iload_n C 1 dW_abort_1 rfl rfl ?_
  refine wr_callV1 C (As := [.int (nI t)]) (rest := []) (mc_isActiveI l Γ σ μ (t := t) (by omega)) cb_W_isActive (Or.inl tw_174) tw_175 tw_532 (by omega) (wc_c_WC) rfl (by decide) (by decide) rfl rfl (Nat.le_of_ble_eq_true rfl) ⟨Nat.le_refl _, Nat.le_refl _⟩ dW_abort_2 ?_
  refine wr_if_ne C (tgt := 10) dW_abort_5 (by decide) (fun h1 => ?_) (fun h1 => ?_)
  ·
    refine wr_aload_n C 0 dW_abort_10 rfl rfl ?_
    refine wf_WC_transactions C  (Or.inl tw_121) dW_abort_11 ?_
    refine wr_iload_n C 1 dW_abort_14 rfl rfl ?_
    refine wa_txs C (by omega) dW_abort_15 ?_
    refine wr_callV0 C (As := []) (rest := []) (mc_giveUp l Γ σ μ (t := t) (by omega)) cb_T_giveUp (Or.inr ⟨_, tw_192⟩) tw_193 tw_534 (by omega) (wc_c_Tx (by omega)) rfl (by decide) (by decide) rfl rfl (Nat.le_of_ble_eq_true rfl) ⟨Nat.le_refl _, Nat.le_refl _⟩ dW_abort_16 ?_
    generalize hs1 : fc_giveUp σ t = σ1
    refine wr_iconst C (v := nI 1) dW_abort_19 (by decide) ?_
    exact wr_iret C hr rfl hlk dW_abort_20 (by subst_vars; first | (simp [fc_abort, wc_nIe, wc_nI0, wc_nIm, *]; done) | (simp_all [fc_abort, wc_nIe, wc_nI0, wc_nIm]; done)) (by first | rfl | (subst_vars; first | (simp [fc_abort, wc_nIe, wc_nI0, wc_nIm, *]; done) | (simp_all [fc_abort, wc_nIe, wc_nI0, wc_nIm]; done))) (by first | rfl | (subst_vars; first | (simp [fc_abort, wc_nIe, wc_nI0, wc_nIm, *]; done) | (simp_all [fc_abort, wc_nIe, wc_nI0, wc_nIm]; done)))
  ·
    refine wr_iconst C (v := nI 0) dW_abort_8 (by decide) ?_
    exact wr_iret C hr rfl hlk dW_abort_9 (by subst_vars; first | (simp [fc_abort, wc_nIe, wc_nI0, wc_nIm, *]; done) | (simp_all [fc_abort, wc_nIe, wc_nI0, wc_nIm]; done)) (by first | rfl | (subst_vars; first | (simp [fc_abort, wc_nIe, wc_nI0, wc_nIm, *]; done) | (simp_all [fc_abort, wc_nIe, wc_nI0, wc_nIm]; done))) (by first | rfl | (subst_vars; first | (simp [fc_abort, wc_nIe, wc_nI0, wc_nIm, *]; done) | (simp_all [fc_abort, wc_nIe, wc_nI0, wc_nIm]; done)))
set_option maxRecDepth 100000 in
set_option maxHeartbeats 4000000 in
theorem mc_readAtO (l : Launch) (Γ : wc_G) (σ μ : wc_St) (a : Int32) (ha : a < 0 ∨ nI 9 ≤ a) (r : Int32) : wc_M l yW_readAt cW_readAt 3 (some .long) 3 Γ [.ref (Γ.2.2 0), .int a, .int r] σ μ (some (.long 1099511627776)) (σ) μ := by
  refine wc_enter "WaitedCommits" (by decide) rfl (Nat.le_of_ble_eq_true rfl) ?_
  intro P0 E0 S0 M0 A0 B0 T0 K0 C hr hlk
  refine wr_vs (vs' := [(0, .ref (Γ.2.2 0)), (1, .int a), (2, .int r)]) rfl ?_
  refine wr_iload_n C 1 dW_readAt_0 rfl rfl ?_
  refine wr_callS1 C (As := [.int a]) (rest := []) (mc_isKeyO l Γ σ μ a ha) cb_W_isKey (Or.inl tw_177) tw_178 (by decide) (by decide) rfl rfl (Nat.le_of_ble_eq_true rfl) ⟨Nat.le_refl _, Nat.le_refl _⟩ dW_readAt_1 ?_
  refine wr_if_eq C (tgt := 34) dW_readAt_4 (by decide) (fun _ => ?_) (fun h1 => absurd (by decide) h1)
  refine wr_ldc2 C dW_readAt_34 tw_198 ?_
  exact wr_lret C hr hlk dW_readAt_37 (by rfl) (by rfl) (by rfl)
set_option maxRecDepth 100000 in
set_option maxHeartbeats 4000000 in
theorem mc_readAtI (l : Launch) (Γ : wc_G) (σ μ : wc_St) {k : Nat} (hk : k < 9) (r : Int32) (hcnt : σ 5 k 0 ≤ nI 4) : wc_M l yW_readAt cW_readAt 3 (some .long) 3 Γ [.ref (Γ.2.2 0), .int (nI k), .int r] σ μ (some (.long ((fc_readAt σ k r).1))) ((fc_readAt σ k r).2) μ := by
  refine wc_enter "WaitedCommits" (by decide) rfl (Nat.le_of_ble_eq_true rfl) ?_
  intro P0 E0 S0 M0 A0 B0 T0 K0 C hr hlk
  refine wr_vs (vs' := [(0, .ref (Γ.2.2 0)), (1, .int (nI k)), (2, .int r)]) rfl ?_
  refine wr_iload_n C 1 dW_readAt_0 rfl rfl ?_
  refine wr_callS1 C (As := [.int (nI k)]) (rest := []) (mc_isKeyI l Γ σ μ (j := k) (by omega)) cb_W_isKey (Or.inl tw_177) tw_178 (by decide) (by decide) rfl rfl (Nat.le_of_ble_eq_true rfl) ⟨Nat.le_refl _, Nat.le_refl _⟩ dW_readAt_1 ?_
  refine wr_if_eq C (tgt := 34) dW_readAt_4 (by decide) (fun h1 => absurd h1 (by decide)) (fun _ => ?_)
  refine wr_aload_n C 0 dW_readAt_7 rfl rfl ?_
  refine wf_WC_sites C  (Or.inl tw_119) dW_readAt_8 ?_
  refine wr_iload_n C 1 dW_readAt_11 rfl rfl ?_
  refine wr_callS1 C (As := [.int (nI k)]) (rest := [.ref (Γ.2.2 1)]) (mc_siteOf l Γ σ μ (k := k) (by omega)) cb_W_siteOf (Or.inl tw_183) tw_184 (by decide) (by decide) rfl rfl (Nat.le_of_ble_eq_true rfl) ⟨Nat.le_refl _, Nat.le_refl _⟩ dW_readAt_12 ?_
  refine wa_sites C (by omega) dW_readAt_15 ?_
  refine wf_Site_isUp C (by omega) (Or.inr ⟨_, tw_38⟩) dW_readAt_16 ?_
  refine wr_if_eq C (tgt := 34) dW_readAt_19 (by decide) (fun h2 => ?_) (fun h2 => ?_)
  ·
    refine wr_ldc2 C dW_readAt_34 tw_198 ?_
    exact wr_lret C hr hlk dW_readAt_37 (by subst_vars; first | (simp [fc_readAt, wc_nIe, wc_nI0, wc_nIm, *]; done) | (simp_all [fc_readAt, wc_nIe, wc_nI0, wc_nIm]; done)) (by first | rfl | (subst_vars; first | (simp [fc_readAt, wc_nIe, wc_nI0, wc_nIm, *]; done) | (simp_all [fc_readAt, wc_nIe, wc_nI0, wc_nIm]; done))) (by first | rfl | (subst_vars; first | (simp [fc_readAt, wc_nIe, wc_nI0, wc_nIm, *]; done) | (simp_all [fc_readAt, wc_nIe, wc_nI0, wc_nIm]; done)))
  ·
    refine wr_iload_n C 2 dW_readAt_22 rfl rfl ?_
    refine wr_aload_n C 0 dW_readAt_23 rfl rfl ?_
    refine wr_iload_n C 1 dW_readAt_24 rfl rfl ?_
    refine wr_callS1 C (As := [.int (nI k)]) (rest := [.ref (Γ.2.2 0), .int r]) (mc_siteOf l Γ σ μ (k := k) (by omega)) cb_W_siteOf (Or.inl tw_183) tw_184 (by decide) (by decide) rfl rfl (Nat.le_of_ble_eq_true rfl) ⟨Nat.le_refl _, Nat.le_refl _⟩ dW_readAt_25 ?_
    refine wr_callV1 C (As := [.int (nI (k % 3))]) (rest := [.int r]) (mc_ready l Γ σ μ (q := k % 3) (by omega)) cb_W_greatestReadyTime (Or.inl tw_235) tw_236 tw_542 (by omega) (wc_c_WC) rfl (by decide) (by decide) rfl rfl (Nat.le_of_ble_eq_true rfl) ⟨Nat.le_refl _, Nat.le_refl _⟩ dW_readAt_28 ?_
    refine wr_icmp_le C (tgt := 38) dW_readAt_31 (by decide) (fun h3 => ?_) (fun h3 => ?_)
    ·
      refine wr_aload_n C 0 dW_readAt_38 rfl rfl ?_
      refine wf_WC_sites C  (Or.inl tw_119) dW_readAt_39 ?_
      refine wr_iload_n C 1 dW_readAt_42 rfl rfl ?_
      refine wr_callS1 C (As := [.int (nI k)]) (rest := [.ref (Γ.2.2 1)]) (mc_siteOf l Γ σ μ (k := k) (by omega)) cb_W_siteOf (Or.inl tw_183) tw_184 (by decide) (by decide) rfl rfl (Nat.le_of_ble_eq_true rfl) ⟨Nat.le_refl _, Nat.le_refl _⟩ dW_readAt_43 ?_
      refine wa_sites C (by omega) dW_readAt_46 ?_
      refine wr_iload_n C 2 dW_readAt_47 rfl rfl ?_
      refine wr_callV0 C (As := [.int r]) (rest := []) (mc_raiseBound l Γ σ μ (q := k % 3) (by omega) r) cb_S_raiseBound (Or.inr ⟨_, tw_242⟩) tw_243 tw_544 (by omega) (wc_c_Site (by omega)) rfl (by decide) (by decide) rfl rfl (Nat.le_of_ble_eq_true rfl) ⟨Nat.le_refl _, Nat.le_refl _⟩ dW_readAt_48 ?_
      generalize hs1 : fc_raise σ (k % 3) r = σ1
      refine wr_aload_n C 0 dW_readAt_51 rfl rfl ?_
      refine wf_WC_keys C  (Or.inl tw_120) dW_readAt_52 ?_
      refine wr_iload_n C 1 dW_readAt_55 rfl rfl ?_
      refine wa_keys C (by omega) dW_readAt_56 ?_
      refine wr_iload_n C 2 dW_readAt_57 rfl rfl ?_
      refine wr_callV1 C (As := [.int r]) (rest := []) (mc_valueAt l Γ σ1 μ (k := k) (by omega) r (by subst_vars; exact hcnt)) cb_K_valueAt (Or.inr ⟨_, tw_246⟩) tw_247 tw_545 (by omega) (wc_c_Key (by omega)) rfl (by decide) (by decide) rfl rfl (Nat.le_of_ble_eq_true rfl) ⟨Nat.le_refl _, Nat.le_refl _⟩ dW_readAt_58 ?_
      exact wr_lret C hr hlk dW_readAt_61 (by subst_vars; first | (simp [fc_readAt, wc_nIe, wc_nI0, wc_nIm, *]; done) | (simp_all [fc_readAt, wc_nIe, wc_nI0, wc_nIm]; done)) (by first | rfl | (subst_vars; first | (simp [fc_readAt, wc_nIe, wc_nI0, wc_nIm, *]; done) | (simp_all [fc_readAt, wc_nIe, wc_nI0, wc_nIm]; done))) (by first | rfl | (subst_vars; first | (simp [fc_readAt, wc_nIe, wc_nI0, wc_nIm, *]; done) | (simp_all [fc_readAt, wc_nIe, wc_nI0, wc_nIm]; done)))
    ·
      refine wr_ldc2 C dW_readAt_34 tw_198 ?_
      exact wr_lret C hr hlk dW_readAt_37 (by subst_vars; first | (simp [fc_readAt, wc_nIe, wc_nI0, wc_nIm, *]; done) | (simp_all [fc_readAt, wc_nIe, wc_nI0, wc_nIm]; done)) (by first | rfl | (subst_vars; first | (simp [fc_readAt, wc_nIe, wc_nI0, wc_nIm, *]; done) | (simp_all [fc_readAt, wc_nIe, wc_nI0, wc_nIm]; done))) (by first | rfl | (subst_vars; first | (simp [fc_readAt, wc_nIe, wc_nI0, wc_nIm, *]; done) | (simp_all [fc_readAt, wc_nIe, wc_nI0, wc_nIm]; done)))
set_option maxRecDepth 100000 in
set_option maxHeartbeats 4000000 in
theorem mc_stepO (l : Launch) (Γ : wc_G) (σ μ : wc_St) (a : Int32) (ha : a < 0 ∨ ¬ a ≤ nI 500) : wc_M l yW_step cW_step 4 (some .int) 6 Γ [.ref (Γ.2.2 0), .int a] σ μ (some (.int (-1))) (σ) μ := by
  refine wc_enter "WaitedCommits" (by decide) rfl (Nat.le_of_ble_eq_true rfl) ?_
  intro P0 E0 S0 M0 A0 B0 T0 K0 C hr hlk
  refine wr_vs (vs' := [(0, .ref (Γ.2.2 0)), (1, .int a)]) rfl ?_
  refine wr_iload_n C 1 dW_step_0 rfl rfl ?_
  refine wr_if_lt C (tgt := 11) dW_step_1 (by decide) (fun h1 => ?_) (fun h1 => ?_)
  ·
    refine wr_iconst C (v := -1) dW_step_11 (by decide) ?_
    exact wr_iret C hr rfl hlk dW_step_12 (by rfl) (by rfl) (by rfl)
  ·
    refine wr_iload_n C 1 dW_step_4 rfl rfl ?_
    refine wr_sipush C (v := nI 500) dW_step_5 (by decide) ?_
    refine wr_icmp_le C (tgt := 13) dW_step_8 (by decide) (fun h2 => ?_) (fun h2 => ?_)
    ·
      exact absurd (ha.resolve_left h1) (fun q => q h2)
    ·
      refine wr_iconst C (v := -1) dW_step_11 (by decide) ?_
      exact wr_iret C hr rfl hlk dW_step_12 (by rfl) (by rfl) (by rfl)
set_option maxRecDepth 100000 in
set_option maxHeartbeats 4000000 in
theorem mc_stepI (l : Launch) (Γ : wc_G) (σ μ : wc_St) {N : Nat} (hN : N ≤ 500) (hw : wc_wf σ) : wc_M l yW_step cW_step 4 (some .int) 6 Γ [.ref (Γ.2.2 0), .int (nI N)] σ μ (some (.int (nI ((fc_steps N 0 σ).1)))) ((fc_steps N 0 σ).2) μ := by
  refine wc_enter "WaitedCommits" (by decide) rfl (Nat.le_of_ble_eq_true rfl) ?_
  intro P0 E0 S0 M0 A0 B0 T0 K0 C hr hlk
  refine wr_vs (vs' := [(0, .ref (Γ.2.2 0)), (1, .int (nI N))]) rfl ?_
  refine wr_iload_n C 1 dW_step_0 rfl rfl ?_
  refine wr_if_lt C (tgt := 11) dW_step_1 (by decide) (fun h1 => absurd h1 (wc_nolt0 (by omega) (by omega))) (fun _ => ?_)
  refine wr_iload_n C 1 dW_step_4 rfl rfl ?_
  refine wr_sipush C (v := nI 500) dW_step_5 (by decide) ?_
  refine wr_icmp_le C (tgt := 13) dW_step_8 (by decide) (fun _ => ?_) (fun h2 => absurd (wc_yesle (by omega) (by omega) (by omega)) h2)
  refine wr_iconst C (v := nI 0) dW_step_13 (by decide) ?_
  refine wr_istore_n C (vs' := [(2, .int (nI 0)), (0, .ref (Γ.2.2 0)), (1, .int (nI N))]) dW_step_14 rfl (by decide) rfl ?_
  refine wr_iconst C (v := nI 0) dW_step_15 (by decide) ?_
  refine wr_istore_n C (vs' := [(3, .int (nI 0)), (2, .int (nI 0)), (0, .ref (Γ.2.2 0)), (1, .int (nI N))]) dW_step_16 rfl (by decide) rfl ?_
  refine wr_sub [0, 1, 2, 3] rfl ?_
  exact ml_steps C hr hlk N hN μ rfl _ rfl N 0 0 σ (by omega) hw rfl
set_option maxRecDepth 100000 in
set_option maxHeartbeats 4000000 in
theorem mc_now (l : Launch) (Γ : wc_G) (σ μ : wc_St)  : wc_M l yW_now cW_now 1 (some .int) 0 Γ [.ref (Γ.2.2 0)] σ μ (some (.int (σ 23 0 0))) (σ) μ := by
  refine wc_enter "WaitedCommits" (by decide) rfl (Nat.le_of_ble_eq_true rfl) ?_
  intro P0 E0 S0 M0 A0 B0 T0 K0 C hr hlk
  refine wr_vs (vs' := [(0, .ref (Γ.2.2 0))]) rfl ?_
  refine wr_aload_n C 0 dW_now_0 rfl rfl ?_
  refine wf_WC_time C  (Or.inl tw_123) dW_now_1 ?_
  exact wr_iret C hr rfl hlk dW_now_4 (by rfl) (by rfl) (by rfl)
set_option maxRecDepth 100000 in
set_option maxHeartbeats 4000000 in
theorem mc_messages (l : Launch) (Γ : wc_G) (σ μ : wc_St)  : wc_M l yW_messages cW_messages 1 (some .int) 0 Γ [.ref (Γ.2.2 0)] σ μ (some (.int (σ 26 0 0))) (σ) μ := by
  refine wc_enter "WaitedCommits" (by decide) rfl (Nat.le_of_ble_eq_true rfl) ?_
  intro P0 E0 S0 M0 A0 B0 T0 K0 C hr hlk
  refine wr_vs (vs' := [(0, .ref (Γ.2.2 0))]) rfl ?_
  refine wr_aload_n C 0 dW_messages_0 rfl rfl ?_
  refine wf_WC_underWay C  (Or.inl tw_126) dW_messages_1 ?_
  exact wr_iret C hr rfl hlk dW_messages_4 (by rfl) (by rfl) (by rfl)
set_option maxRecDepth 100000 in
set_option maxHeartbeats 4000000 in
theorem mc_stateI (l : Launch) (Γ : wc_G) (σ μ : wc_St) {t : Nat} (ht : t < 5) : wc_M l yW_state cW_state 2 (some .int) 1 Γ [.ref (Γ.2.2 0), .int (nI t)] σ μ (some (.int (σ 8 t 0))) (σ) μ := by
  refine wc_enter "WaitedCommits" (by decide) rfl (Nat.le_of_ble_eq_true rfl) ?_
  intro P0 E0 S0 M0 A0 B0 T0 K0 C hr hlk
  refine wr_vs (vs' := [(0, .ref (Γ.2.2 0)), (1, .int (nI t))]) rfl ?_
  refine wr_iload_n C 1 dW_state_0 rfl rfl ?_
  refine wr_callS1 C (As := [.int (nI t)]) (rest := []) (mc_isTxI l Γ σ μ (j := t) (by omega)) cb_W_isTransaction (Or.inl tw_158) tw_159 (by decide) (by decide) rfl rfl (Nat.le_of_ble_eq_true rfl) ⟨Nat.le_refl _, Nat.le_refl _⟩ dW_state_1 ?_
  refine wr_if_eq C (tgt := 19) dW_state_4 (by decide) (fun h1 => absurd h1 (by decide)) (fun _ => ?_)
  refine wr_aload_n C 0 dW_state_7 rfl rfl ?_
  refine wf_WC_transactions C  (Or.inl tw_121) dW_state_8 ?_
  refine wr_iload_n C 1 dW_state_11 rfl rfl ?_
  refine wa_txs C (by omega) dW_state_12 ?_
  refine wf_Tx_state C (by omega) (Or.inr ⟨_, tw_66⟩) dW_state_13 ?_
  refine wr_goto C (tgt := 20) dW_state_16 (by decide) ?_
  exact wr_iret C hr rfl hlk dW_state_20 (by rfl) (by rfl) (by rfl)
set_option maxRecDepth 100000 in
set_option maxHeartbeats 4000000 in
theorem mc_stateO (l : Launch) (Γ : wc_G) (σ μ : wc_St) (a : Int32) (ha : a < 0 ∨ nI 5 ≤ a) : wc_M l yW_state cW_state 2 (some .int) 1 Γ [.ref (Γ.2.2 0), .int a] σ μ (some (.int (-1))) (σ) μ := by
  refine wc_enter "WaitedCommits" (by decide) rfl (Nat.le_of_ble_eq_true rfl) ?_
  intro P0 E0 S0 M0 A0 B0 T0 K0 C hr hlk
  refine wr_vs (vs' := [(0, .ref (Γ.2.2 0)), (1, .int a)]) rfl ?_
  refine wr_iload_n C 1 dW_state_0 rfl rfl ?_
  refine wr_callS1 C (As := [.int a]) (rest := []) (mc_isTxO l Γ σ μ a ha) cb_W_isTransaction (Or.inl tw_158) tw_159 (by decide) (by decide) rfl rfl (Nat.le_of_ble_eq_true rfl) ⟨Nat.le_refl _, Nat.le_refl _⟩ dW_state_1 ?_
  refine wr_if_eq C (tgt := 19) dW_state_4 (by decide) (fun _ => ?_) (fun h1 => absurd (by decide) h1)
  refine wr_iconst C (v := -1) dW_state_19 (by decide) ?_
  exact wr_iret C hr rfl hlk dW_state_20 (by rfl) (by rfl) (by rfl)
set_option maxRecDepth 100000 in
set_option maxHeartbeats 4000000 in
theorem mc_stampI (l : Launch) (Γ : wc_G) (σ μ : wc_St) {t : Nat} (ht : t < 5) : wc_M l yW_stamp cW_stamp 3 (some .int) 2 Γ [.ref (Γ.2.2 0), .int (nI t)] σ μ (some (.int (fc_stamp σ t))) (σ) μ := by
  refine wc_enter "WaitedCommits" (by decide) rfl (Nat.le_of_ble_eq_true rfl) ?_
  intro P0 E0 S0 M0 A0 B0 T0 K0 C hr hlk
  refine wr_vs (vs' := [(0, .ref (Γ.2.2 0)), (1, .int (nI t))]) rfl ?_
  refine wr_aload_n C 0 dW_stamp_0 rfl rfl ?_
  refine wr_iload_n C 1 dW_stamp_1 rfl rfl ?_
  refine wr_callV1 C (As := [.int (nI t)]) (rest := []) (mc_stateI l Γ σ μ (t := t) (by omega)) cb_W_state (Or.inl tw_307) tw_300 tw_301 (by omega) (wc_c_WC) rfl (by decide) (by decide) rfl rfl (Nat.le_of_ble_eq_true rfl) ⟨Nat.le_refl _, Nat.le_refl _⟩ dW_stamp_2 ?_
  refine wr_istore_n C (vs' := [(2, .int (σ 8 t 0)), (0, .ref (Γ.2.2 0)), (1, .int (nI t))]) dW_stamp_5 rfl (by decide) rfl ?_
  refine wr_iload_n C 0 dW_stamp_6 rfl rfl ?_
  refine wr_iconst C (v := nI 3) dW_stamp_7 (by decide) ?_
  refine wr_icmp_eq C (tgt := 16) dW_stamp_8 (by decide) (fun h1 => ?_) (fun h1 => ?_)
  ·
    refine wr_aload_n C 1 dW_stamp_16 rfl rfl ?_
    refine wf_WC_transactions C  (Or.inl tw_121) dW_stamp_17 ?_
    refine wr_iload_n C 2 dW_stamp_20 rfl rfl ?_
    refine wa_txs C (by omega) dW_stamp_21 ?_
    refine wf_Tx_stamp C (by omega) (Or.inr ⟨_, tw_76⟩) dW_stamp_22 ?_
    refine wr_goto C (tgt := 29) dW_stamp_25 (by decide) ?_
    exact wr_iret C hr rfl hlk dW_stamp_29 (by subst_vars; first | (simp [fc_stamp, wc_nIe, wc_nI0, wc_nIm, *]; done) | (simp_all [fc_stamp, wc_nIe, wc_nI0, wc_nIm]; done)) (by rfl) (by rfl)
  ·
    refine wr_iload_n C 0 dW_stamp_11 rfl rfl ?_
    refine wr_iconst C (v := nI 4) dW_stamp_12 (by decide) ?_
    refine wr_icmp_ne C (tgt := 28) dW_stamp_13 (by decide) (fun h2 => ?_) (fun h2 => ?_)
    ·
      refine wr_iconst C (v := -1) dW_stamp_28 (by decide) ?_
      exact wr_iret C hr rfl hlk dW_stamp_29 (by subst_vars; first | (simp [fc_stamp, wc_nIe, wc_nI0, wc_nIm, *]; done) | (simp_all [fc_stamp, wc_nIe, wc_nI0, wc_nIm]; done)) (by rfl) (by rfl)
    ·
      refine wr_aload_n C 1 dW_stamp_16 rfl rfl ?_
      refine wf_WC_transactions C  (Or.inl tw_121) dW_stamp_17 ?_
      refine wr_iload_n C 2 dW_stamp_20 rfl rfl ?_
      refine wa_txs C (by omega) dW_stamp_21 ?_
      refine wf_Tx_stamp C (by omega) (Or.inr ⟨_, tw_76⟩) dW_stamp_22 ?_
      refine wr_goto C (tgt := 29) dW_stamp_25 (by decide) ?_
      exact wr_iret C hr rfl hlk dW_stamp_29 (by subst_vars; first | (simp [fc_stamp, wc_nIe, wc_nI0, wc_nIm, *]; done) | (simp_all [fc_stamp, wc_nIe, wc_nI0, wc_nIm]; done)) (by rfl) (by rfl)
set_option maxRecDepth 100000 in
set_option maxHeartbeats 4000000 in
theorem mc_stampO (l : Launch) (Γ : wc_G) (σ μ : wc_St) (a : Int32) (ha : a < 0 ∨ nI 5 ≤ a) : wc_M l yW_stamp cW_stamp 3 (some .int) 2 Γ [.ref (Γ.2.2 0), .int a] σ μ (some (.int (-1))) (σ) μ := by
  refine wc_enter "WaitedCommits" (by decide) rfl (Nat.le_of_ble_eq_true rfl) ?_
  intro P0 E0 S0 M0 A0 B0 T0 K0 C hr hlk
  refine wr_vs (vs' := [(0, .ref (Γ.2.2 0)), (1, .int a)]) rfl ?_
  refine wr_aload_n C 0 dW_stamp_0 rfl rfl ?_
  refine wr_iload_n C 1 dW_stamp_1 rfl rfl ?_
  refine wr_callV1 C (As := [.int a]) (rest := []) (mc_stateO l Γ σ μ a ha) cb_W_state (Or.inl tw_307) tw_300 tw_301 (by omega) (wc_c_WC) rfl (by decide) (by decide) rfl rfl (Nat.le_of_ble_eq_true rfl) ⟨Nat.le_refl _, Nat.le_refl _⟩ dW_stamp_2 ?_
  refine wr_istore_n C (vs' := [(2, .int (-1)), (0, .ref (Γ.2.2 0)), (1, .int a)]) dW_stamp_5 rfl (by decide) rfl ?_
  refine wr_iload_n C 0 dW_stamp_6 rfl rfl ?_
  refine wr_iconst C (v := nI 3) dW_stamp_7 (by decide) ?_
  refine wr_icmp_eq C (tgt := 16) dW_stamp_8 (by decide) (fun h1 => ?_) (fun h1 => ?_)
  ·
    exfalso; first | (revert h1; decide) | (revert h2; decide) | (revert h3; decide)
  ·
    refine wr_iload_n C 0 dW_stamp_11 rfl rfl ?_
    refine wr_iconst C (v := nI 4) dW_stamp_12 (by decide) ?_
    refine wr_icmp_ne C (tgt := 28) dW_stamp_13 (by decide) (fun h2 => ?_) (fun h2 => ?_)
    ·
      refine wr_iconst C (v := -1) dW_stamp_28 (by decide) ?_
      exact wr_iret C hr rfl hlk dW_stamp_29 (by first | rfl | (exfalso; revert h1; decide) | (exfalso; revert h2; decide)) (by rfl) (by rfl)
    ·
      exfalso; first | (revert h1; decide) | (revert h2; decide) | (revert h3; decide)
set_option maxRecDepth 100000 in
set_option maxHeartbeats 4000000 in
theorem mc_endI (l : Launch) (Γ : wc_G) (σ μ : wc_St) {t : Nat} (ht : t < 5) : wc_M l yW_end cW_end 2 (some .int) 2 Γ [.ref (Γ.2.2 0), .int (nI t)] σ μ (some (.int (fc_end σ t))) (σ) μ := by
  refine wc_enter "WaitedCommits" (by decide) rfl (Nat.le_of_ble_eq_true rfl) ?_
  intro P0 E0 S0 M0 A0 B0 T0 K0 C hr hlk
  refine wr_vs (vs' := [(0, .ref (Γ.2.2 0)), (1, .int (nI t))]) rfl ?_
  refine wr_aload_n C 0 dW_end_0 rfl rfl ?_
  refine wr_iload_n C 1 dW_end_1 rfl rfl ?_
  refine wr_callV1 C (As := [.int (nI t)]) (rest := []) (mc_stateI l Γ σ μ (t := t) (by omega)) cb_W_state (Or.inl tw_307) tw_300 tw_301 (by omega) (wc_c_WC) rfl (by decide) (by decide) rfl rfl (Nat.le_of_ble_eq_true rfl) ⟨Nat.le_refl _, Nat.le_refl _⟩ dW_end_2 ?_
  refine wr_iconst C (v := nI 4) dW_end_5 (by decide) ?_
  refine wr_icmp_ne C (tgt := 21) dW_end_6 (by decide) (fun h1 => ?_) (fun h1 => ?_)
  ·
    refine wr_iconst C (v := -1) dW_end_21 (by decide) ?_
    exact wr_iret C hr rfl hlk dW_end_22 (by subst_vars; first | (simp [fc_end, wc_nIe, wc_nI0, wc_nIm, *]; done) | (simp_all [fc_end, wc_nIe, wc_nI0, wc_nIm]; done)) (by rfl) (by rfl)
  ·
    refine wr_aload_n C 0 dW_end_9 rfl rfl ?_
    refine wf_WC_transactions C  (Or.inl tw_121) dW_end_10 ?_
    refine wr_iload_n C 1 dW_end_13 rfl rfl ?_
    refine wa_txs C (by omega) dW_end_14 ?_
    refine wf_Tx_end C (by omega) (Or.inr ⟨_, tw_78⟩) dW_end_15 ?_
    refine wr_goto C (tgt := 22) dW_end_18 (by decide) ?_
    exact wr_iret C hr rfl hlk dW_end_22 (by subst_vars; first | (simp [fc_end, wc_nIe, wc_nI0, wc_nIm, *]; done) | (simp_all [fc_end, wc_nIe, wc_nI0, wc_nIm]; done)) (by rfl) (by rfl)
set_option maxRecDepth 100000 in
set_option maxHeartbeats 4000000 in
theorem mc_endO (l : Launch) (Γ : wc_G) (σ μ : wc_St) (a : Int32) (ha : a < 0 ∨ nI 5 ≤ a) : wc_M l yW_end cW_end 2 (some .int) 2 Γ [.ref (Γ.2.2 0), .int a] σ μ (some (.int (-1))) (σ) μ := by
  refine wc_enter "WaitedCommits" (by decide) rfl (Nat.le_of_ble_eq_true rfl) ?_
  intro P0 E0 S0 M0 A0 B0 T0 K0 C hr hlk
  refine wr_vs (vs' := [(0, .ref (Γ.2.2 0)), (1, .int a)]) rfl ?_
  refine wr_aload_n C 0 dW_end_0 rfl rfl ?_
  refine wr_iload_n C 1 dW_end_1 rfl rfl ?_
  refine wr_callV1 C (As := [.int a]) (rest := []) (mc_stateO l Γ σ μ a ha) cb_W_state (Or.inl tw_307) tw_300 tw_301 (by omega) (wc_c_WC) rfl (by decide) (by decide) rfl rfl (Nat.le_of_ble_eq_true rfl) ⟨Nat.le_refl _, Nat.le_refl _⟩ dW_end_2 ?_
  refine wr_iconst C (v := nI 4) dW_end_5 (by decide) ?_
  refine wr_icmp_ne C (tgt := 21) dW_end_6 (by decide) (fun h1 => ?_) (fun h1 => ?_)
  ·
    refine wr_iconst C (v := -1) dW_end_21 (by decide) ?_
    exact wr_iret C hr rfl hlk dW_end_22 (by first | rfl | (exfalso; revert h1; decide)) (by rfl) (by rfl)
  ·
    exfalso; revert h1; decide
set_option maxRecDepth 100000 in
set_option maxHeartbeats 4000000 in
theorem ml_marks {P0 : Program} {l : Launch} {E0 : Env} {S0 : State} {M0 : MethodId} {A0 : Array Value} {B0 : List Frame} {T0 : Method} {K0 : Code} {Γ : wc_G} {A : Nat → Prop} {v : Option Value} {σ' μ' : wc_St} (C : wc_C P0 S0 M0 A0 K0 cW_marks 4 "WaitedCommits" Γ A) (hr : T0.sig.returnType = (some .int)) (hlk : T0.locks = false) {q : Nat} (hq : q < 3) (σ μ : wc_St) (r1 : Nat) (hx : wc_K P0 l E0 (wc_rm 2) S0 M0 A0 B0 T0 K0 4 Γ A (MQ B0 (wc_Qw Γ A v σ' μ') A0 S0 0 0 A) 0 0 41 [(3, .int (nI 5)), (2, .int (nI r1)), (0, .ref (Γ.2.2 0)), (1, .int (nI q))] [] σ μ) : ∀ (n : Nat) (t a : Nat), t + n = 5 → fc_marks σ q n t a = r1 → wc_K P0 l E0 (wc_rm 2) S0 M0 A0 B0 T0 K0 4 Γ A (MQ B0 (wc_Qw Γ A v σ' μ') A0 S0 0 0 A) 0 0 13 [(3, .int (nI t)), (2, .int (nI a)), (0, .ref (Γ.2.2 0)), (1, .int (nI q))] [] σ μ := by
  intro n
  induction n with
  | zero =>
    intro t a ht hres
    obtain rfl : t = 5 := by omega
    obtain rfl : a = r1 := hres
    refine wr_iload_n C 0 dW_marks_13 rfl rfl ?_
    refine wr_iconst C (v := nI 5) dW_marks_14 (by decide) ?_
    refine wr_icmp_ge C (tgt := 41) dW_marks_15 (by decide) (fun _ => ?_) (fun h1 => absurd (by decide) h1)
    exact hx
  | succ n ih =>
    intro t a ht hres
    refine wr_iload_n C 0 dW_marks_13 rfl rfl ?_
    refine wr_iconst C (v := nI 5) dW_marks_14 (by decide) ?_
    refine wr_icmp_ge C (tgt := 41) dW_marks_15 (by decide) (fun h1 => absurd h1 (wc_noge (by omega) (by omega) (by omega))) (fun _ => ?_)
    refine wr_aload_n C 2 dW_marks_18 rfl rfl ?_
    refine wf_WC_transactions C  (Or.inl tw_121) dW_marks_19 ?_
    refine wr_iload_n C 0 dW_marks_22 rfl rfl ?_
    refine wa_txs C (by omega) dW_marks_23 ?_
    refine wf_Tx_marks C (by omega) (Or.inr ⟨_, tw_84⟩) dW_marks_24 ?_
    refine wr_iload_n C 3 dW_marks_27 rfl rfl ?_
    refine wa_marks C (by omega) (by omega) dW_marks_28 ?_
    refine wr_if_eq C (tgt := 35) dW_marks_29 (by decide) (fun h2 => ?_) (fun h2 => ?_)
    ·
      refine wr_iinc C (v := nI (t + 1)) (vs' := [(3, .int (nI (t + 1))), (2, .int (nI a)), (0, .ref (Γ.2.2 0)), (1, .int (nI q))]) 0 dW_marks_35 rfl (wc_inc1 t) (by decide) rfl ?_
      refine wr_goto C (tgt := 13) dW_marks_38 (by decide) ?_
      refine wr_sub [0, 1, 2, 3] rfl ?_
      exact ih (t + 1) (a) (by omega) (by rw [← hres]; simp [fc_marks, *])
    ·
      refine wr_iinc C (v := nI (a + 1)) (vs' := [(2, .int (nI (a + 1))), (3, .int (nI t)), (0, .ref (Γ.2.2 0)), (1, .int (nI q))]) 1 dW_marks_32 rfl (wc_inc1 a) (by decide) rfl ?_
      refine wr_iinc C (v := nI (t + 1)) (vs' := [(3, .int (nI (t + 1))), (2, .int (nI (a + 1))), (0, .ref (Γ.2.2 0)), (1, .int (nI q))]) 1 dW_marks_35 rfl (wc_inc1 t) (by decide) rfl ?_
      refine wr_goto C (tgt := 13) dW_marks_38 (by decide) ?_
      refine wr_sub [0, 1, 2, 3] rfl ?_
      exact ih (t + 1) (a + 1) (by omega) (by rw [← hres]; simp [fc_marks, *])
set_option maxRecDepth 100000 in
set_option maxHeartbeats 4000000 in
theorem mc_marksI (l : Launch) (Γ : wc_G) (σ μ : wc_St) {q : Nat} (hq : q < 3) : wc_M l yW_marks cW_marks 4 (some .int) 2 Γ [.ref (Γ.2.2 0), .int (nI q)] σ μ (some (.int (fc_marks2 σ q))) (σ) μ := by
  refine wc_enter "WaitedCommits" (by decide) rfl (Nat.le_of_ble_eq_true rfl) ?_
  intro P0 E0 S0 M0 A0 B0 T0 K0 C hr hlk
  refine wr_vs (vs' := [(0, .ref (Γ.2.2 0)), (1, .int (nI q))]) rfl ?_
  refine wr_iload_n C 1 dW_marks_0 rfl rfl ?_
  refine wr_callS1 C (As := [.int (nI q)]) (rest := []) (mc_isSiteI l Γ σ μ (j := q) (by omega)) cb_W_isSite (Or.inl tw_140) tw_141 (by decide) (by decide) rfl rfl (Nat.le_of_ble_eq_true rfl) ⟨Nat.le_refl _, Nat.le_refl _⟩ dW_marks_1 ?_
  refine wr_if_ne C (tgt := 9) dW_marks_4 (by decide) (fun _ => ?_) (fun h1 => absurd h1 (by decide))
  refine wr_iconst C (v := nI 0) dW_marks_9 (by decide) ?_
  refine wr_istore_n C (vs' := [(2, .int (nI 0)), (0, .ref (Γ.2.2 0)), (1, .int (nI q))]) dW_marks_10 rfl (by decide) rfl ?_
  refine wr_iconst C (v := nI 0) dW_marks_11 (by decide) ?_
  refine wr_istore_n C (vs' := [(3, .int (nI 0)), (2, .int (nI 0)), (0, .ref (Γ.2.2 0)), (1, .int (nI q))]) dW_marks_12 rfl (by decide) rfl ?_
  refine wr_sub [0, 1, 2, 3] rfl ?_
  have hle := fc_marks_le (σ := σ) (p := q) 5 0 0
  generalize hr1 : fc_marks σ q 5 0 0 = r1 at hle
  refine ml_marks C hr hlk hq σ μ r1 ?_ 5 0 0 rfl hr1
  refine wr_iload_n C 1 dW_marks_41 rfl rfl ?_
  refine wr_if_ne C (tgt := 49) dW_marks_42 (by decide) (fun h2 => ?_) (fun h2 => ?_)
  ·
    refine wr_iload_n C 1 dW_marks_49 rfl rfl ?_
    refine wr_bipush C (v := nI 8) dW_marks_50 (by decide) ?_
    refine wr_aload_n C 2 dW_marks_52 rfl rfl ?_
    refine wr_iload_n C 3 dW_marks_53 rfl rfl ?_
    refine wr_callV1 C (As := [.int (nI q)]) (rest := [.int (nI 8), .int (nI r1)]) (mc_leastMark l Γ σ μ (q := q) (by omega)) cb_W_leastMark (Or.inl tw_238) tw_239 tw_543 (by omega) (wc_c_WC) rfl (by decide) (by decide) rfl rfl (Nat.le_of_ble_eq_true rfl) ⟨Nat.le_refl _, Nat.le_refl _⟩ dW_marks_54 ?_
    refine wr_imul C (z := (nI 8) * (fc_leastMark σ q)) dW_marks_57 rfl ?_
    refine wr_iadd C (z := (nI r1) + ((nI 8) * (fc_leastMark σ q))) dW_marks_58 rfl ?_
    exact wr_iret C hr rfl hlk dW_marks_59 (by simp [fc_marks2, wc_nI0 (show r1 < 2 ^ 31 by omega), *] at *; try simp [fc_marks2, *]) (by rfl) (by rfl)
  ·
    refine wr_iconst C (v := nI 0) dW_marks_45 (by decide) ?_
    refine wr_goto C (tgt := 59) dW_marks_46 (by decide) ?_
    exact wr_iret C hr rfl hlk dW_marks_59 (by simp [fc_marks2, wc_nI0 (show r1 < 2 ^ 31 by omega), *] at *; try simp [fc_marks2, *]) (by rfl) (by rfl)
set_option maxRecDepth 100000 in
set_option maxHeartbeats 4000000 in
theorem mc_marksO (l : Launch) (Γ : wc_G) (σ μ : wc_St) (a : Int32) (ha : a < 0 ∨ nI 3 ≤ a) : wc_M l yW_marks cW_marks 4 (some .int) 2 Γ [.ref (Γ.2.2 0), .int a] σ μ (some (.int (nI 0))) (σ) μ := by
  refine wc_enter "WaitedCommits" (by decide) rfl (Nat.le_of_ble_eq_true rfl) ?_
  intro P0 E0 S0 M0 A0 B0 T0 K0 C hr hlk
  refine wr_vs (vs' := [(0, .ref (Γ.2.2 0)), (1, .int a)]) rfl ?_
  refine wr_iload_n C 1 dW_marks_0 rfl rfl ?_
  refine wr_callS1 C (As := [.int a]) (rest := []) (mc_isSiteO l Γ σ μ a ha) cb_W_isSite (Or.inl tw_140) tw_141 (by decide) (by decide) rfl rfl (Nat.le_of_ble_eq_true rfl) ⟨Nat.le_refl _, Nat.le_refl _⟩ dW_marks_1 ?_
  refine wr_if_ne C (tgt := 9) dW_marks_4 (by decide) (fun h1 => absurd (by decide) h1) (fun _ => ?_)
  refine wr_iconst C (v := nI 0) dW_marks_7 (by decide) ?_
  exact wr_iret C hr rfl hlk dW_marks_8 (by rfl) (by rfl) (by rfl)
set_option maxRecDepth 100000 in
set_option maxHeartbeats 4000000 in
theorem mc_safeO (l : Launch) (Γ : wc_G) (σ μ : wc_St) (a : Int32) (ha : a < 0 ∨ nI 3 ≤ a) : wc_M l yW_safe cW_safe 2 (some .int) 3 Γ [.ref (Γ.2.2 0), .int a] σ μ (some (.int (-1))) (σ) μ := by
  refine wc_enter "WaitedCommits" (by decide) rfl (Nat.le_of_ble_eq_true rfl) ?_
  intro P0 E0 S0 M0 A0 B0 T0 K0 C hr hlk
  refine wr_vs (vs' := [(0, .ref (Γ.2.2 0)), (1, .int a)]) rfl ?_
  refine wr_iload_n C 1 dW_safe_0 rfl rfl ?_
  refine wr_callS1 C (As := [.int a]) (rest := []) (mc_isSiteO l Γ σ μ a ha) cb_W_isSite (Or.inl tw_140) tw_141 (by decide) (by decide) rfl rfl (Nat.le_of_ble_eq_true rfl) ⟨Nat.le_refl _, Nat.le_refl _⟩ dW_safe_1 ?_
  refine wr_if_eq C (tgt := 27) dW_safe_4 (by decide) (fun _ => ?_) (fun h1 => absurd (by decide) h1)
  refine wr_iconst C (v := -1) dW_safe_27 (by decide) ?_
  exact wr_iret C hr rfl hlk dW_safe_28 (by rfl) (by rfl) (by rfl)
set_option maxRecDepth 100000 in
set_option maxHeartbeats 4000000 in
theorem mc_safeI (l : Launch) (Γ : wc_G) (σ μ : wc_St) {q : Nat} (hq : q < 3) : wc_M l yW_safe cW_safe 2 (some .int) 3 Γ [.ref (Γ.2.2 0), .int (nI q)] σ μ (some (.int (fc_safe σ q))) (σ) μ := by
  refine wc_enter "WaitedCommits" (by decide) rfl (Nat.le_of_ble_eq_true rfl) ?_
  intro P0 E0 S0 M0 A0 B0 T0 K0 C hr hlk
  refine wr_vs (vs' := [(0, .ref (Γ.2.2 0)), (1, .int (nI q))]) rfl ?_
  refine wr_iload_n C 1 dW_safe_0 rfl rfl ?_
  refine wr_callS1 C (As := [.int (nI q)]) (rest := []) (mc_isSiteI l Γ σ μ (j := q) (by omega)) cb_W_isSite (Or.inl tw_140) tw_141 (by decide) (by decide) rfl rfl (Nat.le_of_ble_eq_true rfl) ⟨Nat.le_refl _, Nat.le_refl _⟩ dW_safe_1 ?_
  refine wr_if_eq C (tgt := 27) dW_safe_4 (by decide) (fun h1 => absurd h1 (by decide)) (fun _ => ?_)
  refine wr_aload_n C 0 dW_safe_7 rfl rfl ?_
  refine wf_WC_sites C  (Or.inl tw_119) dW_safe_8 ?_
  refine wr_iload_n C 1 dW_safe_11 rfl rfl ?_
  refine wa_sites C (by omega) dW_safe_12 ?_
  refine wf_Site_isUp C (by omega) (Or.inr ⟨_, tw_38⟩) dW_safe_13 ?_
  refine wr_if_eq C (tgt := 27) dW_safe_16 (by decide) (fun h2 => ?_) (fun h2 => ?_)
  ·
    refine wr_iconst C (v := -1) dW_safe_27 (by decide) ?_
    exact wr_iret C hr rfl hlk dW_safe_28 (by subst_vars; first | (simp [fc_safe, wc_nIe, wc_nI0, wc_nIm, *]; done) | (simp_all [fc_safe, wc_nIe, wc_nI0, wc_nIm]; done)) (by rfl) (by rfl)
  ·
    refine wr_aload_n C 0 dW_safe_19 rfl rfl ?_
    refine wr_iload_n C 1 dW_safe_20 rfl rfl ?_
    refine wr_callV1 C (As := [.int (nI q)]) (rest := []) (mc_ready l Γ σ μ (q := q) (by omega)) cb_W_greatestReadyTime (Or.inl tw_235) tw_236 tw_542 (by omega) (wc_c_WC) rfl (by decide) (by decide) rfl rfl (Nat.le_of_ble_eq_true rfl) ⟨Nat.le_refl _, Nat.le_refl _⟩ dW_safe_21 ?_
    refine wr_goto C (tgt := 28) dW_safe_24 (by decide) ?_
    exact wr_iret C hr rfl hlk dW_safe_28 (by subst_vars; first | (simp [fc_safe, wc_nIe, wc_nI0, wc_nIm, *]; done) | (simp_all [fc_safe, wc_nIe, wc_nI0, wc_nIm]; done)) (by rfl) (by rfl)
set_option maxRecDepth 100000 in
set_option maxHeartbeats 4000000 in
theorem mc_boundO (l : Launch) (Γ : wc_G) (σ μ : wc_St) (a : Int32) (ha : a < 0 ∨ nI 3 ≤ a) : wc_M l yW_bound cW_bound 2 (some .int) 1 Γ [.ref (Γ.2.2 0), .int a] σ μ (some (.int (-1))) (σ) μ := by
  refine wc_enter "WaitedCommits" (by decide) rfl (Nat.le_of_ble_eq_true rfl) ?_
  intro P0 E0 S0 M0 A0 B0 T0 K0 C hr hlk
  refine wr_vs (vs' := [(0, .ref (Γ.2.2 0)), (1, .int a)]) rfl ?_
  refine wr_iload_n C 1 dW_bound_0 rfl rfl ?_
  refine wr_callS1 C (As := [.int a]) (rest := []) (mc_isSiteO l Γ σ μ a ha) cb_W_isSite (Or.inl tw_140) tw_141 (by decide) (by decide) rfl rfl (Nat.le_of_ble_eq_true rfl) ⟨Nat.le_refl _, Nat.le_refl _⟩ dW_bound_1 ?_
  refine wr_if_eq C (tgt := 19) dW_bound_4 (by decide) (fun _ => ?_) (fun h1 => absurd (by decide) h1)
  refine wr_iconst C (v := -1) dW_bound_19 (by decide) ?_
  exact wr_iret C hr rfl hlk dW_bound_20 (by rfl) (by rfl) (by rfl)
set_option maxRecDepth 100000 in
set_option maxHeartbeats 4000000 in
theorem mc_boundI (l : Launch) (Γ : wc_G) (σ μ : wc_St) {q : Nat} (hq : q < 3) : wc_M l yW_bound cW_bound 2 (some .int) 1 Γ [.ref (Γ.2.2 0), .int (nI q)] σ μ (some (.int (σ 4 q 0))) (σ) μ := by
  refine wc_enter "WaitedCommits" (by decide) rfl (Nat.le_of_ble_eq_true rfl) ?_
  intro P0 E0 S0 M0 A0 B0 T0 K0 C hr hlk
  refine wr_vs (vs' := [(0, .ref (Γ.2.2 0)), (1, .int (nI q))]) rfl ?_
  refine wr_iload_n C 1 dW_bound_0 rfl rfl ?_
  refine wr_callS1 C (As := [.int (nI q)]) (rest := []) (mc_isSiteI l Γ σ μ (j := q) (by omega)) cb_W_isSite (Or.inl tw_140) tw_141 (by decide) (by decide) rfl rfl (Nat.le_of_ble_eq_true rfl) ⟨Nat.le_refl _, Nat.le_refl _⟩ dW_bound_1 ?_
  refine wr_if_eq C (tgt := 19) dW_bound_4 (by decide) (fun h1 => absurd h1 (by decide)) (fun _ => ?_)
  refine wr_aload_n C 0 dW_bound_7 rfl rfl ?_
  refine wf_WC_sites C  (Or.inl tw_119) dW_bound_8 ?_
  refine wr_iload_n C 1 dW_bound_11 rfl rfl ?_
  refine wa_sites C (by omega) dW_bound_12 ?_
  refine wf_Site_bound C (by omega) (Or.inr ⟨_, tw_40⟩) dW_bound_13 ?_
  refine wr_goto C (tgt := 20) dW_bound_16 (by decide) ?_
  exact wr_iret C hr rfl hlk dW_bound_20 (by rfl) (by rfl) (by rfl)
set_option maxRecDepth 100000 in
set_option maxHeartbeats 4000000 in
theorem mc_holdersO (l : Launch) (Γ : wc_G) (σ μ : wc_St) (a : Int32) (ha : a < 0 ∨ nI 9 ≤ a) : wc_M l yW_holders cW_holders 4 (some .int) 1 Γ [.ref (Γ.2.2 0), .int a] σ μ (some (.int (nI 0))) (σ) μ := by
  refine wc_enter "WaitedCommits" (by decide) rfl (Nat.le_of_ble_eq_true rfl) ?_
  intro P0 E0 S0 M0 A0 B0 T0 K0 C hr hlk
  refine wr_vs (vs' := [(0, .ref (Γ.2.2 0)), (1, .int a)]) rfl ?_
  refine wr_iload_n C 1 dW_holders_0 rfl rfl ?_
  refine wr_callS1 C (As := [.int a]) (rest := []) (mc_isKeyO l Γ σ μ a ha) cb_W_isKey (Or.inl tw_177) tw_178 (by decide) (by decide) rfl rfl (Nat.le_of_ble_eq_true rfl) ⟨Nat.le_refl _, Nat.le_refl _⟩ dW_holders_1 ?_
  refine wr_if_ne C (tgt := 9) dW_holders_4 (by decide) (fun h1 => absurd (by decide) h1) (fun _ => ?_)
  refine wr_iconst C (v := nI 0) dW_holders_7 (by decide) ?_
  exact wr_iret C hr rfl hlk dW_holders_8 (by rfl) (by rfl) (by rfl)
set_option maxRecDepth 100000 in
set_option maxHeartbeats 4000000 in
theorem ml_holders {P0 : Program} {l : Launch} {E0 : Env} {S0 : State} {M0 : MethodId} {A0 : Array Value} {B0 : List Frame} {T0 : Method} {K0 : Code} {Γ : wc_G} {A : Nat → Prop} {v : Option Value} {σ' μ' : wc_St} (C : wc_C P0 S0 M0 A0 K0 cW_holders 4 "WaitedCommits" Γ A) (hr : T0.sig.returnType = (some .int)) (hlk : T0.locks = false) {k : Nat} (hk : k < 9) (σ μ : wc_St) (hσ : σ = σ') (hμ : μ = μ') : ∀ (n : Nat) (t : Nat) (a : Int32), t + n = 5 → some (.int (fc_holders σ k n t a)) = v → wc_K P0 l E0 (wc_rm 1) S0 M0 A0 B0 T0 K0 4 Γ A (MQ B0 (wc_Qw Γ A v σ' μ') A0 S0 0 0 A) 0 0 13 [(3, .int (nI t)), (2, .int a), (0, .ref (Γ.2.2 0)), (1, .int (nI k))] [] σ μ := by
  subst hσ; subst hμ
  intro n
  induction n with
  | zero =>
    intro t a ht hv
    obtain rfl : t = 5 := by omega
    refine wr_iload_n C 0 dW_holders_13 rfl rfl ?_
    refine wr_iconst C (v := nI 5) dW_holders_14 (by decide) ?_
    refine wr_icmp_ge C (tgt := 64) dW_holders_15 (by decide) (fun _ => ?_) (fun h1 => absurd (by decide) h1)
    refine wr_iload_n C 1 dW_holders_64 rfl rfl ?_
    exact wr_iret C hr rfl hlk dW_holders_65 (by exact hv) (by rfl) (by rfl)
  | succ n ih =>
    intro t a ht hv
    refine wr_iload_n C 0 dW_holders_13 rfl rfl ?_
    refine wr_iconst C (v := nI 5) dW_holders_14 (by decide) ?_
    refine wr_icmp_ge C (tgt := 64) dW_holders_15 (by decide) (fun h1 => absurd h1 (wc_noge (by omega) (by omega) (by omega))) (fun _ => ?_)
    refine wr_aload_n C 2 dW_holders_18 rfl rfl ?_
    refine wf_WC_transactions C  (Or.inl tw_121) dW_holders_19 ?_
    refine wr_iload_n C 0 dW_holders_22 rfl rfl ?_
    refine wa_txs C (by omega) dW_holders_23 ?_
    refine wf_Tx_locks C (by omega) (Or.inr ⟨_, tw_80⟩) dW_holders_24 ?_
    refine wr_iload_n C 3 dW_holders_27 rfl rfl ?_
    refine wa_locks C (by omega) (by omega) dW_holders_28 ?_
    refine wr_if_eq C (tgt := 38) dW_holders_29 (by decide) (fun h2 => ?_) (fun h2 => ?_)
    ·
      refine wr_aload_n C 2 dW_holders_38 rfl rfl ?_
      refine wf_WC_transactions C  (Or.inl tw_121) dW_holders_39 ?_
      refine wr_iload_n C 0 dW_holders_42 rfl rfl ?_
      refine wa_txs C (by omega) dW_holders_43 ?_
      refine wf_Tx_locks C (by omega) (Or.inr ⟨_, tw_80⟩) dW_holders_44 ?_
      refine wr_iload_n C 3 dW_holders_47 rfl rfl ?_
      refine wa_locks C (by omega) (by omega) dW_holders_48 ?_
      refine wr_iconst C (v := nI 2) dW_holders_49 (by decide) ?_
      refine wr_icmp_ne C (tgt := 58) dW_holders_50 (by decide) (fun h3 => ?_) (fun h3 => ?_)
      ·
        refine wr_iinc C (v := nI (t + 1)) (vs' := [(3, .int (nI (t + 1))), (2, .int a), (0, .ref (Γ.2.2 0)), (1, .int (nI k))]) 0 dW_holders_58 rfl (wc_inc1 t) (by decide) rfl ?_
        refine wr_goto C (tgt := 13) dW_holders_61 (by decide) ?_
        refine wr_sub [0, 1, 2, 3] rfl ?_
        exact ih (t + 1) (a) (by omega) (by rw [← hv]; first | (simp [fc_holders, wc_nIe, wc_nI0, wc_0nI, *]; done) | (exfalso; simp_all [wc_nIe, wc_nI0, wc_0nI]; done))
      ·
        refine wr_iload_n C 1 dW_holders_53 rfl rfl ?_
        refine wr_bipush C (v := nI 32) dW_holders_54 (by decide) ?_
        refine wr_ior C (z := a ||| (nI 32)) dW_holders_56 rfl ?_
        refine wr_istore_n C (vs' := [(2, .int (a ||| (nI 32))), (3, .int (nI t)), (0, .ref (Γ.2.2 0)), (1, .int (nI k))]) dW_holders_57 rfl (by decide) rfl ?_
        refine wr_iinc C (v := nI (t + 1)) (vs' := [(3, .int (nI (t + 1))), (2, .int (a ||| (nI 32))), (0, .ref (Γ.2.2 0)), (1, .int (nI k))]) 1 dW_holders_58 rfl (wc_inc1 t) (by decide) rfl ?_
        refine wr_goto C (tgt := 13) dW_holders_61 (by decide) ?_
        refine wr_sub [0, 1, 2, 3] rfl ?_
        exact ih (t + 1) (a ||| (nI 32)) (by omega) (by rw [← hv]; first | (simp [fc_holders, wc_nIe, wc_nI0, wc_0nI, *]; done) | (exfalso; simp_all [wc_nIe, wc_nI0, wc_0nI]; done))
    ·
      refine wr_iload_n C 1 dW_holders_32 rfl rfl ?_
      refine wr_iconst C (v := nI 1) dW_holders_33 (by decide) ?_
      refine wr_iload_n C 0 dW_holders_34 rfl rfl ?_
      refine wr_ishl C (z := (nI 1) <<< ((nI t) &&& 31)) dW_holders_35 rfl ?_
      refine wr_ior C (z := a ||| ((nI 1) <<< ((nI t) &&& 31))) dW_holders_36 rfl ?_
      refine wr_istore_n C (vs' := [(2, .int (a ||| ((nI 1) <<< ((nI t) &&& 31)))), (3, .int (nI t)), (0, .ref (Γ.2.2 0)), (1, .int (nI k))]) dW_holders_37 rfl (by decide) rfl ?_
      refine wr_aload_n C 2 dW_holders_38 rfl rfl ?_
      refine wf_WC_transactions C  (Or.inl tw_121) dW_holders_39 ?_
      refine wr_iload_n C 1 dW_holders_42 rfl rfl ?_
      refine wa_txs C (by omega) dW_holders_43 ?_
      refine wf_Tx_locks C (by omega) (Or.inr ⟨_, tw_80⟩) dW_holders_44 ?_
      refine wr_iload_n C 3 dW_holders_47 rfl rfl ?_
      refine wa_locks C (by omega) (by omega) dW_holders_48 ?_
      refine wr_iconst C (v := nI 2) dW_holders_49 (by decide) ?_
      refine wr_icmp_ne C (tgt := 58) dW_holders_50 (by decide) (fun h4 => ?_) (fun h4 => ?_)
      ·
        refine wr_iinc C (v := nI (t + 1)) (vs' := [(3, .int (nI (t + 1))), (2, .int (a ||| ((nI 1) <<< ((nI t) &&& 31)))), (0, .ref (Γ.2.2 0)), (1, .int (nI k))]) 1 dW_holders_58 rfl (wc_inc1 t) (by decide) rfl ?_
        refine wr_goto C (tgt := 13) dW_holders_61 (by decide) ?_
        refine wr_sub [0, 1, 2, 3] rfl ?_
        exact ih (t + 1) (a ||| ((nI 1) <<< ((nI t) &&& 31))) (by omega) (by rw [← hv]; first | (simp [fc_holders, wc_nIe, wc_nI0, wc_0nI, *]; done) | (exfalso; simp_all [wc_nIe, wc_nI0, wc_0nI]; done))
      ·
        refine wr_iload_n C 0 dW_holders_53 rfl rfl ?_
        refine wr_bipush C (v := nI 32) dW_holders_54 (by decide) ?_
        refine wr_ior C (z := (a ||| ((nI 1) <<< ((nI t) &&& 31))) ||| (nI 32)) dW_holders_56 rfl ?_
        refine wr_istore_n C (vs' := [(2, .int ((a ||| ((nI 1) <<< ((nI t) &&& 31))) ||| (nI 32))), (3, .int (nI t)), (0, .ref (Γ.2.2 0)), (1, .int (nI k))]) dW_holders_57 rfl (by decide) rfl ?_
        refine wr_iinc C (v := nI (t + 1)) (vs' := [(3, .int (nI (t + 1))), (2, .int ((a ||| ((nI 1) <<< ((nI t) &&& 31))) ||| (nI 32))), (0, .ref (Γ.2.2 0)), (1, .int (nI k))]) 1 dW_holders_58 rfl (wc_inc1 t) (by decide) rfl ?_
        refine wr_goto C (tgt := 13) dW_holders_61 (by decide) ?_
        refine wr_sub [0, 1, 2, 3] rfl ?_
        exact ih (t + 1) ((a ||| ((nI 1) <<< ((nI t) &&& 31))) ||| (nI 32)) (by omega) (by rw [← hv]; first | (simp [fc_holders, wc_nIe, wc_nI0, wc_0nI, *]; done) | (exfalso; simp_all [wc_nIe, wc_nI0, wc_0nI]; done))
set_option maxRecDepth 100000 in
set_option maxHeartbeats 4000000 in
theorem mc_holdersI (l : Launch) (Γ : wc_G) (σ μ : wc_St) {k : Nat} (hk : k < 9) : wc_M l yW_holders cW_holders 4 (some .int) 1 Γ [.ref (Γ.2.2 0), .int (nI k)] σ μ (some (.int (fc_holders σ k 5 0 (nI 0)))) (σ) μ := by
  refine wc_enter "WaitedCommits" (by decide) rfl (Nat.le_of_ble_eq_true rfl) ?_
  intro P0 E0 S0 M0 A0 B0 T0 K0 C hr hlk
  refine wr_vs (vs' := [(0, .ref (Γ.2.2 0)), (1, .int (nI k))]) rfl ?_
  refine wr_iload_n C 1 dW_holders_0 rfl rfl ?_
  refine wr_callS1 C (As := [.int (nI k)]) (rest := []) (mc_isKeyI l Γ σ μ (j := k) (by omega)) cb_W_isKey (Or.inl tw_177) tw_178 (by decide) (by decide) rfl rfl (Nat.le_of_ble_eq_true rfl) ⟨Nat.le_refl _, Nat.le_refl _⟩ dW_holders_1 ?_
  refine wr_if_ne C (tgt := 9) dW_holders_4 (by decide) (fun _ => ?_) (fun h1 => absurd h1 (by decide))
  refine wr_iconst C (v := nI 0) dW_holders_9 (by decide) ?_
  refine wr_istore_n C (vs' := [(2, .int (nI 0)), (0, .ref (Γ.2.2 0)), (1, .int (nI k))]) dW_holders_10 rfl (by decide) rfl ?_
  refine wr_iconst C (v := nI 0) dW_holders_11 (by decide) ?_
  refine wr_istore_n C (vs' := [(3, .int (nI 0)), (2, .int (nI 0)), (0, .ref (Γ.2.2 0)), (1, .int (nI k))]) dW_holders_12 rfl (by decide) rfl ?_
  refine wr_sub [0, 1, 2, 3] rfl ?_
  exact ml_holders C hr hlk hk σ μ rfl rfl 5 0 (nI 0) rfl rfl
set_option maxRecDepth 100000 in
set_option maxHeartbeats 4000000 in
theorem mc_versionO (l : Launch) (Γ : wc_G) (σ μ : wc_St) (a b : Int32) (ha : a < 0 ∨ nI 9 ≤ a) : wc_M l yW_version cW_version 3 (some .int) 1 Γ [.ref (Γ.2.2 0), .int a, .int b] σ μ (some (.int (-1))) (σ) μ := by
  refine wc_enter "WaitedCommits" (by decide) rfl (Nat.le_of_ble_eq_true rfl) ?_
  intro P0 E0 S0 M0 A0 B0 T0 K0 C hr hlk
  refine wr_vs (vs' := [(0, .ref (Γ.2.2 0)), (1, .int a), (2, .int b)]) rfl ?_
  refine wr_iload_n C 1 dW_version_0 rfl rfl ?_
  refine wr_callS1 C (As := [.int a]) (rest := []) (mc_isKeyO l Γ σ μ a ha) cb_W_isKey (Or.inl tw_177) tw_178 (by decide) (by decide) rfl rfl (Nat.le_of_ble_eq_true rfl) ⟨Nat.le_refl _, Nat.le_refl _⟩ dW_version_1 ?_
  refine wr_if_eq C (tgt := 24) dW_version_4 (by decide) (fun _ => ?_) (fun h1 => absurd (by decide) h1)
  refine wr_iconst C (v := -1) dW_version_24 (by decide) ?_
  exact wr_iret C hr rfl hlk dW_version_25 (by rfl) (by rfl) (by rfl)
set_option maxRecDepth 100000 in
set_option maxHeartbeats 4000000 in
theorem mc_versionI (l : Launch) (Γ : wc_G) (σ μ : wc_St) {k : Nat} (hk : k < 9) (b : Int32) (hcnt : σ 5 k 0 ≤ nI 4) : wc_M l yW_version cW_version 3 (some .int) 1 Γ [.ref (Γ.2.2 0), .int (nI k), .int b] σ μ (some (.int (fc_version σ k b))) (σ) μ := by
  refine wc_enter "WaitedCommits" (by decide) rfl (Nat.le_of_ble_eq_true rfl) ?_
  intro P0 E0 S0 M0 A0 B0 T0 K0 C hr hlk
  refine wr_vs (vs' := [(0, .ref (Γ.2.2 0)), (1, .int (nI k)), (2, .int b)]) rfl ?_
  refine wr_iload_n C 1 dW_version_0 rfl rfl ?_
  refine wr_callS1 C (As := [.int (nI k)]) (rest := []) (mc_isKeyI l Γ σ μ (j := k) (by omega)) cb_W_isKey (Or.inl tw_177) tw_178 (by decide) (by decide) rfl rfl (Nat.le_of_ble_eq_true rfl) ⟨Nat.le_refl _, Nat.le_refl _⟩ dW_version_1 ?_
  refine wr_if_eq C (tgt := 24) dW_version_4 (by decide) (fun h1 => absurd h1 (by decide)) (fun _ => ?_)
  refine wr_iload_n C 2 dW_version_7 rfl rfl ?_
  refine wr_if_lt C (tgt := 24) dW_version_8 (by decide) (fun h2 => ?_) (fun h2 => ?_)
  ·
    refine wr_iconst C (v := -1) dW_version_24 (by decide) ?_
    exact wr_iret C hr rfl hlk dW_version_25 (by first | (simp [fc_version, *]; done) | (rw [fc_version, if_neg h2, if_pos h3, hij, nI_clamp (by omega)]; done)) (by rfl) (by rfl)
  ·
    refine wr_iload_n C 2 dW_version_11 rfl rfl ?_
    refine wr_aload_n C 0 dW_version_12 rfl rfl ?_
    refine wf_WC_keys C  (Or.inl tw_120) dW_version_13 ?_
    refine wr_iload_n C 1 dW_version_16 rfl rfl ?_
    refine wa_keys C (by omega) dW_version_17 ?_
    refine wf_Key_count C (by omega) (Or.inr ⟨_, tw_56⟩) dW_version_18 ?_
    refine wr_icmp_lt C (tgt := 26) dW_version_21 (by decide) (fun h3 => ?_) (fun h3 => ?_)
    ·
      refine wr_aload_n C 0 dW_version_26 rfl rfl ?_
      refine wf_WC_keys C  (Or.inl tw_120) dW_version_27 ?_
      refine wr_iload_n C 1 dW_version_30 rfl rfl ?_
      refine wa_keys C (by omega) dW_version_31 ?_
      refine wf_Key_stamps C (by omega) (Or.inr ⟨_, tw_54⟩) dW_version_32 ?_
      refine wr_iload_n C 2 dW_version_35 rfl rfl ?_
      obtain ⟨j, hj4, hij⟩ := wc_ix4 h2 h3 hcnt
      refine wr_top hij ?_
      refine wa_stamps C (by omega) (by omega) dW_version_36 ?_
      exact wr_iret C hr rfl hlk dW_version_37 (by first | (simp [fc_version, *]; done) | (rw [fc_version, if_neg h2, if_pos h3, hij, nI_clamp (by omega)]; done)) (by rfl) (by rfl)
    ·
      refine wr_iconst C (v := -1) dW_version_24 (by decide) ?_
      exact wr_iret C hr rfl hlk dW_version_25 (by first | (simp [fc_version, *]; done) | (rw [fc_version, if_neg h2, if_pos h3, hij, nI_clamp (by omega)]; done)) (by rfl) (by rfl)
end
