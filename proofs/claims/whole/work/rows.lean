section
-- ===== PART A: goes FIRST, ahead of the names: the tables' words, and 'selects' of the private methods out of them =====
/-- a private method of a class that the tables say can be made, by its rows of tables_1 -/
def lw_okq (q : MethodName × Nat) : Prop := (q.1.cls ≠ "java/lang/invoke/MethodHandle" ∧ q.1.cls ≠ "java/lang/invoke/VarHandle") ∧ Cond.instantiable q.1.cls q.2 ∈ tables_1 ∧ Cond.privateMethod q.1 ∈ tables_1 ∧ Cond.instanceMethod q.1 ∈ tables_1
theorem lw_p0 : lw_okq (⟨"GuardedPool$State", "taskOf", "(I)LGuardedPool$Task;"⟩, 9) := ⟨⟨by decide +kernel, by decide +kernel⟩, List.mem_of_getElem? (i := 20) (by decide +kernel), List.mem_of_getElem? (i := 230) (by decide +kernel), List.mem_of_getElem? (i := 231) (by decide +kernel)⟩
theorem lw_p1 : lw_okq (⟨"GuardedPool$State", "wordsOf", "(I)I"⟩, 9) := ⟨⟨by decide +kernel, by decide +kernel⟩, List.mem_of_getElem? (i := 20) (by decide +kernel), List.mem_of_getElem? (i := 240) (by decide +kernel), List.mem_of_getElem? (i := 241) (by decide +kernel)⟩
theorem lw_p2 : lw_okq (⟨"GuardedPool$State", "roomFor", "(I)LGuardedPool$Block;"⟩, 9) := ⟨⟨by decide +kernel, by decide +kernel⟩, List.mem_of_getElem? (i := 20) (by decide +kernel), List.mem_of_getElem? (i := 249) (by decide +kernel), List.mem_of_getElem? (i := 250) (by decide +kernel)⟩
theorem lw_p3 : lw_okq (⟨"GuardedPool$State", "lowestFree", "(I)LGuardedPool$Block;"⟩, 9) := ⟨⟨by decide +kernel, by decide +kernel⟩, List.mem_of_getElem? (i := 20) (by decide +kernel), List.mem_of_getElem? (i := 253) (by decide +kernel), List.mem_of_getElem? (i := 254) (by decide +kernel)⟩
theorem lw_p4 : lw_okq (⟨"GuardedPool$State", "cutOut", "(I)LGuardedPool$Block;"⟩, 9) := ⟨⟨by decide +kernel, by decide +kernel⟩, List.mem_of_getElem? (i := 20) (by decide +kernel), List.mem_of_getElem? (i := 261) (by decide +kernel), List.mem_of_getElem? (i := 262) (by decide +kernel)⟩
theorem lw_p5 : lw_okq (⟨"GuardedPool$State", "halve", "(LGuardedPool$Block;)V"⟩, 9) := ⟨⟨by decide +kernel, by decide +kernel⟩, List.mem_of_getElem? (i := 20) (by decide +kernel), List.mem_of_getElem? (i := 265) (by decide +kernel), List.mem_of_getElem? (i := 266) (by decide +kernel)⟩
theorem lw_p6 : lw_okq (⟨"GuardedPool$State", "placeAt", "(I)LGuardedPool$Block;"⟩, 9) := ⟨⟨by decide +kernel, by decide +kernel⟩, List.mem_of_getElem? (i := 20) (by decide +kernel), List.mem_of_getElem? (i := 269) (by decide +kernel), List.mem_of_getElem? (i := 270) (by decide +kernel)⟩
theorem lw_p7 : lw_okq (⟨"GuardedPool", "countRefusal", "(I)V"⟩, 10) := ⟨⟨by decide +kernel, by decide +kernel⟩, List.mem_of_getElem? (i := 12) (by decide +kernel), List.mem_of_getElem? (i := 274) (by decide +kernel), List.mem_of_getElem? (i := 275) (by decide +kernel)⟩
theorem lw_p8 : lw_okq (⟨"GuardedPool", "recorded", "(I)I"⟩, 10) := ⟨⟨by decide +kernel, by decide +kernel⟩, List.mem_of_getElem? (i := 12) (by decide +kernel), List.mem_of_getElem? (i := 278) (by decide +kernel), List.mem_of_getElem? (i := 279) (by decide +kernel)⟩
theorem lw_p9 : lw_okq (⟨"GuardedPool$State", "blockOf", "(I)LGuardedPool$Block;"⟩, 9) := ⟨⟨by decide +kernel, by decide +kernel⟩, List.mem_of_getElem? (i := 20) (by decide +kernel), List.mem_of_getElem? (i := 298) (by decide +kernel), List.mem_of_getElem? (i := 299) (by decide +kernel)⟩
theorem lw_p10 : lw_okq (⟨"GuardedPool$State", "free", "(LGuardedPool$Block;)I"⟩, 9) := ⟨⟨by decide +kernel, by decide +kernel⟩, List.mem_of_getElem? (i := 20) (by decide +kernel), List.mem_of_getElem? (i := 306) (by decide +kernel), List.mem_of_getElem? (i := 307) (by decide +kernel)⟩
theorem lw_p11 : lw_okq (⟨"GuardedPool$State", "brokenGuards", "(LGuardedPool$Block;)I"⟩, 9) := ⟨⟨by decide +kernel, by decide +kernel⟩, List.mem_of_getElem? (i := 20) (by decide +kernel), List.mem_of_getElem? (i := 310) (by decide +kernel), List.mem_of_getElem? (i := 311) (by decide +kernel)⟩
theorem lw_p12 : lw_okq (⟨"GuardedPool$State", "valueAt", "(I)I"⟩, 9) := ⟨⟨by decide +kernel, by decide +kernel⟩, List.mem_of_getElem? (i := 20) (by decide +kernel), List.mem_of_getElem? (i := 314) (by decide +kernel), List.mem_of_getElem? (i := 315) (by decide +kernel)⟩
theorem lw_p13 : lw_okq (⟨"GuardedPool$State", "setValue", "(II)V"⟩, 9) := ⟨⟨by decide +kernel, by decide +kernel⟩, List.mem_of_getElem? (i := 20) (by decide +kernel), List.mem_of_getElem? (i := 322) (by decide +kernel), List.mem_of_getElem? (i := 323) (by decide +kernel)⟩
theorem lw_p14 : lw_okq (⟨"GuardedPool$State", "joinTwins", "(LGuardedPool$Block;)V"⟩, 9) := ⟨⟨by decide +kernel, by decide +kernel⟩, List.mem_of_getElem? (i := 20) (by decide +kernel), List.mem_of_getElem? (i := 326) (by decide +kernel), List.mem_of_getElem? (i := 327) (by decide +kernel)⟩
theorem lw_p15 : lw_okq (⟨"GuardedPool$State", "blockAt", "(I)LGuardedPool$Block;"⟩, 9) := ⟨⟨by decide +kernel, by decide +kernel⟩, List.mem_of_getElem? (i := 20) (by decide +kernel), List.mem_of_getElem? (i := 338) (by decide +kernel), List.mem_of_getElem? (i := 339) (by decide +kernel)⟩
def lw_privs_1 : List (MethodName × Nat) := [(⟨"GuardedPool$State", "taskOf", "(I)LGuardedPool$Task;"⟩, 9), (⟨"GuardedPool$State", "wordsOf", "(I)I"⟩, 9), (⟨"GuardedPool$State", "roomFor", "(I)LGuardedPool$Block;"⟩, 9), (⟨"GuardedPool$State", "lowestFree", "(I)LGuardedPool$Block;"⟩, 9), (⟨"GuardedPool$State", "cutOut", "(I)LGuardedPool$Block;"⟩, 9), (⟨"GuardedPool$State", "halve", "(LGuardedPool$Block;)V"⟩, 9), (⟨"GuardedPool$State", "placeAt", "(I)LGuardedPool$Block;"⟩, 9), (⟨"GuardedPool", "countRefusal", "(I)V"⟩, 10), (⟨"GuardedPool", "recorded", "(I)I"⟩, 10), (⟨"GuardedPool$State", "blockOf", "(I)LGuardedPool$Block;"⟩, 9), (⟨"GuardedPool$State", "free", "(LGuardedPool$Block;)I"⟩, 9), (⟨"GuardedPool$State", "brokenGuards", "(LGuardedPool$Block;)I"⟩, 9), (⟨"GuardedPool$State", "valueAt", "(I)I"⟩, 9), (⟨"GuardedPool$State", "setValue", "(II)V"⟩, 9), (⟨"GuardedPool$State", "joinTwins", "(LGuardedPool$Block;)V"⟩, 9), (⟨"GuardedPool$State", "blockAt", "(I)LGuardedPool$Block;"⟩, 9)]
theorem lw_r1 : ∀ q ∈ lw_privs_1, lw_okq q := List.forall_mem_cons.mpr ⟨lw_p0, List.forall_mem_cons.mpr ⟨lw_p1, List.forall_mem_cons.mpr ⟨lw_p2, List.forall_mem_cons.mpr ⟨lw_p3, List.forall_mem_cons.mpr ⟨lw_p4, List.forall_mem_cons.mpr ⟨lw_p5, List.forall_mem_cons.mpr ⟨lw_p6, List.forall_mem_cons.mpr ⟨lw_p7, List.forall_mem_cons.mpr ⟨lw_p8, List.forall_mem_cons.mpr ⟨lw_p9, List.forall_mem_cons.mpr ⟨lw_p10, List.forall_mem_cons.mpr ⟨lw_p11, List.forall_mem_cons.mpr ⟨lw_p12, List.forall_mem_cons.mpr ⟨lw_p13, List.forall_mem_cons.mpr ⟨lw_p14, List.forall_mem_cons.mpr ⟨lw_p15, fun _ h => absurd h List.not_mem_nil⟩⟩⟩⟩⟩⟩⟩⟩⟩⟩⟩⟩⟩⟩⟩⟩
theorem lw_p16 : lw_okq (⟨"GuardedPool$State", "ageOf", "(LGuardedPool$Block;)I"⟩, 9) := ⟨⟨by decide +kernel, by decide +kernel⟩, List.mem_of_getElem? (i := 20) (by decide +kernel), List.mem_of_getElem? (i := 368) (by decide +kernel), List.mem_of_getElem? (i := 369) (by decide +kernel)⟩
theorem lw_p17 : lw_okq (⟨"GuardedPool$State", "blocksOf", "(I)I"⟩, 9) := ⟨⟨by decide +kernel, by decide +kernel⟩, List.mem_of_getElem? (i := 20) (by decide +kernel), List.mem_of_getElem? (i := 380) (by decide +kernel), List.mem_of_getElem? (i := 381) (by decide +kernel)⟩
theorem lw_p18 : lw_okq (⟨"GuardedPool$State", "leaks", "()I"⟩, 9) := ⟨⟨by decide +kernel, by decide +kernel⟩, List.mem_of_getElem? (i := 20) (by decide +kernel), List.mem_of_getElem? (i := 408) (by decide +kernel), List.mem_of_getElem? (i := 409) (by decide +kernel)⟩
theorem lw_p19 : lw_okq (⟨"GuardedPool$State", "leaksOf", "(I)I"⟩, 9) := ⟨⟨by decide +kernel, by decide +kernel⟩, List.mem_of_getElem? (i := 20) (by decide +kernel), List.mem_of_getElem? (i := 412) (by decide +kernel), List.mem_of_getElem? (i := 413) (by decide +kernel)⟩
theorem lw_p20 : lw_okq (⟨"GuardedPool$State", "isLeak", "(LGuardedPool$Block;)Z"⟩, 9) := ⟨⟨by decide +kernel, by decide +kernel⟩, List.mem_of_getElem? (i := 20) (by decide +kernel), List.mem_of_getElem? (i := 416) (by decide +kernel), List.mem_of_getElem? (i := 417) (by decide +kernel)⟩
theorem lw_p21 : lw_okq (⟨"GuardedPool$Text", "readCommand", "(LGuardedPool$Command;)V"⟩, 6) := ⟨⟨by decide +kernel, by decide +kernel⟩, List.mem_of_getElem? (i := 126) (by decide +kernel), List.mem_of_getElem? (i := 452) (by decide +kernel), List.mem_of_getElem? (i := 453) (by decide +kernel)⟩
theorem lw_p22 : lw_okq (⟨"GuardedPool$Text", "signHere", "()C"⟩, 6) := ⟨⟨by decide +kernel, by decide +kernel⟩, List.mem_of_getElem? (i := 126) (by decide +kernel), List.mem_of_getElem? (i := 456) (by decide +kernel), List.mem_of_getElem? (i := 457) (by decide +kernel)⟩
theorem lw_p23 : lw_okq (⟨"GuardedPool$Text", "readTwoNumbers", "(LGuardedPool$Command;II)V"⟩, 6) := ⟨⟨by decide +kernel, by decide +kernel⟩, List.mem_of_getElem? (i := 126) (by decide +kernel), List.mem_of_getElem? (i := 460) (by decide +kernel), List.mem_of_getElem? (i := 461) (by decide +kernel)⟩
theorem lw_p24 : lw_okq (⟨"GuardedPool$Text", "readNumber", "(II)I"⟩, 6) := ⟨⟨by decide +kernel, by decide +kernel⟩, List.mem_of_getElem? (i := 126) (by decide +kernel), List.mem_of_getElem? (i := 464) (by decide +kernel), List.mem_of_getElem? (i := 465) (by decide +kernel)⟩
theorem lw_p25 : lw_okq (⟨"GuardedPool$Text", "digitHere", "()I"⟩, 6) := ⟨⟨by decide +kernel, by decide +kernel⟩, List.mem_of_getElem? (i := 126) (by decide +kernel), List.mem_of_getElem? (i := 468) (by decide +kernel), List.mem_of_getElem? (i := 469) (by decide +kernel)⟩
theorem lw_p26 : lw_okq (⟨"GuardedPool$Text", "readSign", "(C)V"⟩, 6) := ⟨⟨by decide +kernel, by decide +kernel⟩, List.mem_of_getElem? (i := 126) (by decide +kernel), List.mem_of_getElem? (i := 472) (by decide +kernel), List.mem_of_getElem? (i := 473) (by decide +kernel)⟩
theorem lw_p27 : lw_okq (⟨"GuardedPool", "answerTo", "(LGuardedPool$Command;)I"⟩, 10) := ⟨⟨by decide +kernel, by decide +kernel⟩, List.mem_of_getElem? (i := 12) (by decide +kernel), List.mem_of_getElem? (i := 484) (by decide +kernel), List.mem_of_getElem? (i := 485) (by decide +kernel)⟩
theorem lw_p28 : lw_okq (⟨"GuardedPool", "noteStop", "(II)V"⟩, 10) := ⟨⟨by decide +kernel, by decide +kernel⟩, List.mem_of_getElem? (i := 12) (by decide +kernel), List.mem_of_getElem? (i := 491) (by decide +kernel), List.mem_of_getElem? (i := 492) (by decide +kernel)⟩
theorem lw_p29 : lw_okq (⟨"GuardedPool$State", "askedBy", "(I)I"⟩, 9) := ⟨⟨by decide +kernel, by decide +kernel⟩, List.mem_of_getElem? (i := 20) (by decide +kernel), List.mem_of_getElem? (i := 543) (by decide +kernel), List.mem_of_getElem? (i := 544) (by decide +kernel)⟩
theorem lw_p30 : lw_okq (⟨"GuardedPool$State", "leaksAheadOf", "(LGuardedPool$Block;)I"⟩, 9) := ⟨⟨by decide +kernel, by decide +kernel⟩, List.mem_of_getElem? (i := 20) (by decide +kernel), List.mem_of_getElem? (i := 567) (by decide +kernel), List.mem_of_getElem? (i := 568) (by decide +kernel)⟩
theorem lw_p31 : lw_okq (⟨"GuardedPool$State", "blocksOfSize", "(IZ)I"⟩, 9) := ⟨⟨by decide +kernel, by decide +kernel⟩, List.mem_of_getElem? (i := 20) (by decide +kernel), List.mem_of_getElem? (i := 583) (by decide +kernel), List.mem_of_getElem? (i := 584) (by decide +kernel)⟩
def lw_privs_2 : List (MethodName × Nat) := [(⟨"GuardedPool$State", "ageOf", "(LGuardedPool$Block;)I"⟩, 9), (⟨"GuardedPool$State", "blocksOf", "(I)I"⟩, 9), (⟨"GuardedPool$State", "leaks", "()I"⟩, 9), (⟨"GuardedPool$State", "leaksOf", "(I)I"⟩, 9), (⟨"GuardedPool$State", "isLeak", "(LGuardedPool$Block;)Z"⟩, 9), (⟨"GuardedPool$Text", "readCommand", "(LGuardedPool$Command;)V"⟩, 6), (⟨"GuardedPool$Text", "signHere", "()C"⟩, 6), (⟨"GuardedPool$Text", "readTwoNumbers", "(LGuardedPool$Command;II)V"⟩, 6), (⟨"GuardedPool$Text", "readNumber", "(II)I"⟩, 6), (⟨"GuardedPool$Text", "digitHere", "()I"⟩, 6), (⟨"GuardedPool$Text", "readSign", "(C)V"⟩, 6), (⟨"GuardedPool", "answerTo", "(LGuardedPool$Command;)I"⟩, 10), (⟨"GuardedPool", "noteStop", "(II)V"⟩, 10), (⟨"GuardedPool$State", "askedBy", "(I)I"⟩, 9), (⟨"GuardedPool$State", "leaksAheadOf", "(LGuardedPool$Block;)I"⟩, 9), (⟨"GuardedPool$State", "blocksOfSize", "(IZ)I"⟩, 9)]
theorem lw_r2 : ∀ q ∈ lw_privs_2, lw_okq q := List.forall_mem_cons.mpr ⟨lw_p16, List.forall_mem_cons.mpr ⟨lw_p17, List.forall_mem_cons.mpr ⟨lw_p18, List.forall_mem_cons.mpr ⟨lw_p19, List.forall_mem_cons.mpr ⟨lw_p20, List.forall_mem_cons.mpr ⟨lw_p21, List.forall_mem_cons.mpr ⟨lw_p22, List.forall_mem_cons.mpr ⟨lw_p23, List.forall_mem_cons.mpr ⟨lw_p24, List.forall_mem_cons.mpr ⟨lw_p25, List.forall_mem_cons.mpr ⟨lw_p26, List.forall_mem_cons.mpr ⟨lw_p27, List.forall_mem_cons.mpr ⟨lw_p28, List.forall_mem_cons.mpr ⟨lw_p29, List.forall_mem_cons.mpr ⟨lw_p30, List.forall_mem_cons.mpr ⟨lw_p31, fun _ h => absurd h List.not_mem_nil⟩⟩⟩⟩⟩⟩⟩⟩⟩⟩⟩⟩⟩⟩⟩⟩
theorem lw_p32 : lw_okq (⟨"GuardedPool$State", "ownedWords", "()I"⟩, 9) := ⟨⟨by decide +kernel, by decide +kernel⟩, List.mem_of_getElem? (i := 20) (by decide +kernel), List.mem_of_getElem? (i := 604) (by decide +kernel), List.mem_of_getElem? (i := 605) (by decide +kernel)⟩
theorem lw_p33 : lw_okq (⟨"GuardedPool$State", "askedWords", "()I"⟩, 9) := ⟨⟨by decide +kernel, by decide +kernel⟩, List.mem_of_getElem? (i := 20) (by decide +kernel), List.mem_of_getElem? (i := 608) (by decide +kernel), List.mem_of_getElem? (i := 609) (by decide +kernel)⟩
theorem lw_p34 : lw_okq (⟨"GuardedPoolModel", "askFault", "(II)I"⟩, 17) := ⟨⟨by decide +kernel, by decide +kernel⟩, List.mem_of_getElem? (i := 612) (by decide +kernel), List.mem_of_getElem? (i := 674) (by decide +kernel), List.mem_of_getElem? (i := 675) (by decide +kernel)⟩
theorem lw_p35 : lw_okq (⟨"GuardedPoolModel", "why", "(II)I"⟩, 17) := ⟨⟨by decide +kernel, by decide +kernel⟩, List.mem_of_getElem? (i := 612) (by decide +kernel), List.mem_of_getElem? (i := 684) (by decide +kernel), List.mem_of_getElem? (i := 685) (by decide +kernel)⟩
theorem lw_p36 : lw_okq (⟨"GuardedPoolModel", "wordsOf", "(I)I"⟩, 17) := ⟨⟨by decide +kernel, by decide +kernel⟩, List.mem_of_getElem? (i := 612) (by decide +kernel), List.mem_of_getElem? (i := 691) (by decide +kernel), List.mem_of_getElem? (i := 692) (by decide +kernel)⟩
theorem lw_p37 : lw_okq (⟨"GuardedPoolModel", "isOwned", "(I)Z"⟩, 17) := ⟨⟨by decide +kernel, by decide +kernel⟩, List.mem_of_getElem? (i := 612) (by decide +kernel), List.mem_of_getElem? (i := 695) (by decide +kernel), List.mem_of_getElem? (i := 696) (by decide +kernel)⟩
theorem lw_p38 : lw_okq (⟨"GuardedPoolModel", "lowestFree", "(I)I"⟩, 17) := ⟨⟨by decide +kernel, by decide +kernel⟩, List.mem_of_getElem? (i := 612) (by decide +kernel), List.mem_of_getElem? (i := 699) (by decide +kernel), List.mem_of_getElem? (i := 700) (by decide +kernel)⟩
theorem lw_p39 : lw_okq (⟨"GuardedPoolModel", "isFree", "(I)Z"⟩, 17) := ⟨⟨by decide +kernel, by decide +kernel⟩, List.mem_of_getElem? (i := 612) (by decide +kernel), List.mem_of_getElem? (i := 703) (by decide +kernel), List.mem_of_getElem? (i := 704) (by decide +kernel)⟩
theorem lw_p40 : lw_okq (⟨"GuardedPoolModel", "know", "()V"⟩, 17) := ⟨⟨by decide +kernel, by decide +kernel⟩, List.mem_of_getElem? (i := 612) (by decide +kernel), List.mem_of_getElem? (i := 707) (by decide +kernel), List.mem_of_getElem? (i := 708) (by decide +kernel)⟩
theorem lw_p41 : lw_okq (⟨"GuardedPoolModel", "asks", "(II)I"⟩, 17) := ⟨⟨by decide +kernel, by decide +kernel⟩, List.mem_of_getElem? (i := 612) (by decide +kernel), List.mem_of_getElem? (i := 711) (by decide +kernel), List.mem_of_getElem? (i := 712) (by decide +kernel)⟩
theorem lw_p42 : lw_okq (⟨"GuardedPoolModel", "taken", "(I)I"⟩, 17) := ⟨⟨by decide +kernel, by decide +kernel⟩, List.mem_of_getElem? (i := 612) (by decide +kernel), List.mem_of_getElem? (i := 715) (by decide +kernel), List.mem_of_getElem? (i := 716) (by decide +kernel)⟩
theorem lw_p43 : lw_okq (⟨"GuardedPoolModel", "backFault", "(II)I"⟩, 17) := ⟨⟨by decide +kernel, by decide +kernel⟩, List.mem_of_getElem? (i := 612) (by decide +kernel), List.mem_of_getElem? (i := 723) (by decide +kernel), List.mem_of_getElem? (i := 724) (by decide +kernel)⟩
theorem lw_p44 : lw_okq (⟨"GuardedPoolModel", "beginOf", "(I)I"⟩, 17) := ⟨⟨by decide +kernel, by decide +kernel⟩, List.mem_of_getElem? (i := 612) (by decide +kernel), List.mem_of_getElem? (i := 727) (by decide +kernel), List.mem_of_getElem? (i := 728) (by decide +kernel)⟩
theorem lw_p45 : lw_okq (⟨"GuardedPoolModel", "frees", "(I)I"⟩, 17) := ⟨⟨by decide +kernel, by decide +kernel⟩, List.mem_of_getElem? (i := 612) (by decide +kernel), List.mem_of_getElem? (i := 731) (by decide +kernel), List.mem_of_getElem? (i := 732) (by decide +kernel)⟩
theorem lw_p46 : lw_okq (⟨"GuardedPoolModel", "broken", "(I)I"⟩, 17) := ⟨⟨by decide +kernel, by decide +kernel⟩, List.mem_of_getElem? (i := 612) (by decide +kernel), List.mem_of_getElem? (i := 735) (by decide +kernel), List.mem_of_getElem? (i := 736) (by decide +kernel)⟩
theorem lw_p47 : lw_okq (⟨"GuardedPoolModel", "beginAt", "(I)I"⟩, 17) := ⟨⟨by decide +kernel, by decide +kernel⟩, List.mem_of_getElem? (i := 612) (by decide +kernel), List.mem_of_getElem? (i := 743) (by decide +kernel), List.mem_of_getElem? (i := 744) (by decide +kernel)⟩
def lw_privs_3 : List (MethodName × Nat) := [(⟨"GuardedPool$State", "ownedWords", "()I"⟩, 9), (⟨"GuardedPool$State", "askedWords", "()I"⟩, 9), (⟨"GuardedPoolModel", "askFault", "(II)I"⟩, 17), (⟨"GuardedPoolModel", "why", "(II)I"⟩, 17), (⟨"GuardedPoolModel", "wordsOf", "(I)I"⟩, 17), (⟨"GuardedPoolModel", "isOwned", "(I)Z"⟩, 17), (⟨"GuardedPoolModel", "lowestFree", "(I)I"⟩, 17), (⟨"GuardedPoolModel", "isFree", "(I)Z"⟩, 17), (⟨"GuardedPoolModel", "know", "()V"⟩, 17), (⟨"GuardedPoolModel", "asks", "(II)I"⟩, 17), (⟨"GuardedPoolModel", "taken", "(I)I"⟩, 17), (⟨"GuardedPoolModel", "backFault", "(II)I"⟩, 17), (⟨"GuardedPoolModel", "beginOf", "(I)I"⟩, 17), (⟨"GuardedPoolModel", "frees", "(I)I"⟩, 17), (⟨"GuardedPoolModel", "broken", "(I)I"⟩, 17), (⟨"GuardedPoolModel", "beginAt", "(I)I"⟩, 17)]
theorem lw_r3 : ∀ q ∈ lw_privs_3, lw_okq q := List.forall_mem_cons.mpr ⟨lw_p32, List.forall_mem_cons.mpr ⟨lw_p33, List.forall_mem_cons.mpr ⟨lw_p34, List.forall_mem_cons.mpr ⟨lw_p35, List.forall_mem_cons.mpr ⟨lw_p36, List.forall_mem_cons.mpr ⟨lw_p37, List.forall_mem_cons.mpr ⟨lw_p38, List.forall_mem_cons.mpr ⟨lw_p39, List.forall_mem_cons.mpr ⟨lw_p40, List.forall_mem_cons.mpr ⟨lw_p41, List.forall_mem_cons.mpr ⟨lw_p42, List.forall_mem_cons.mpr ⟨lw_p43, List.forall_mem_cons.mpr ⟨lw_p44, List.forall_mem_cons.mpr ⟨lw_p45, List.forall_mem_cons.mpr ⟨lw_p46, List.forall_mem_cons.mpr ⟨lw_p47, fun _ h => absurd h List.not_mem_nil⟩⟩⟩⟩⟩⟩⟩⟩⟩⟩⟩⟩⟩⟩⟩⟩
theorem lw_p48 : lw_okq (⟨"GuardedPoolModel", "isGuard", "(I)Z"⟩, 17) := ⟨⟨by decide +kernel, by decide +kernel⟩, List.mem_of_getElem? (i := 612) (by decide +kernel), List.mem_of_getElem? (i := 747) (by decide +kernel), List.mem_of_getElem? (i := 748) (by decide +kernel)⟩
theorem lw_p49 : lw_okq (⟨"GuardedPoolModel", "puts", "(II)I"⟩, 17) := ⟨⟨by decide +kernel, by decide +kernel⟩, List.mem_of_getElem? (i := 612) (by decide +kernel), List.mem_of_getElem? (i := 755) (by decide +kernel), List.mem_of_getElem? (i := 756) (by decide +kernel)⟩
theorem lw_p50 : lw_okq (⟨"GuardedPoolModel", "blocksOf", "(I)I"⟩, 17) := ⟨⟨by decide +kernel, by decide +kernel⟩, List.mem_of_getElem? (i := 612) (by decide +kernel), List.mem_of_getElem? (i := 763) (by decide +kernel), List.mem_of_getElem? (i := 764) (by decide +kernel)⟩
theorem lw_p51 : lw_okq (⟨"GuardedPoolModel", "passFault", "(I)I"⟩, 17) := ⟨⟨by decide +kernel, by decide +kernel⟩, List.mem_of_getElem? (i := 612) (by decide +kernel), List.mem_of_getElem? (i := 779) (by decide +kernel), List.mem_of_getElem? (i := 780) (by decide +kernel)⟩
theorem lw_p52 : lw_okq (⟨"GuardedPoolModel", "passes", "(I)I"⟩, 17) := ⟨⟨by decide +kernel, by decide +kernel⟩, List.mem_of_getElem? (i := 612) (by decide +kernel), List.mem_of_getElem? (i := 783) (by decide +kernel), List.mem_of_getElem? (i := 784) (by decide +kernel)⟩
theorem lw_p53 : lw_okq (⟨"GuardedPoolModel", "leaks", "(I)I"⟩, 17) := ⟨⟨by decide +kernel, by decide +kernel⟩, List.mem_of_getElem? (i := 612) (by decide +kernel), List.mem_of_getElem? (i := 787) (by decide +kernel), List.mem_of_getElem? (i := 788) (by decide +kernel)⟩
theorem lw_p54 : lw_okq (⟨"GuardedPoolModel", "isLeak", "(I)Z"⟩, 17) := ⟨⟨by decide +kernel, by decide +kernel⟩, List.mem_of_getElem? (i := 612) (by decide +kernel), List.mem_of_getElem? (i := 791) (by decide +kernel), List.mem_of_getElem? (i := 792) (by decide +kernel)⟩
theorem lw_p55 : lw_okq (⟨"GuardedPoolModel", "sweeps", "()I"⟩, 17) := ⟨⟨by decide +kernel, by decide +kernel⟩, List.mem_of_getElem? (i := 612) (by decide +kernel), List.mem_of_getElem? (i := 799) (by decide +kernel), List.mem_of_getElem? (i := 800) (by decide +kernel)⟩
theorem lw_p56 : lw_okq (⟨"GuardedPoolModel", "go", "(Z)I"⟩, 17) := ⟨⟨by decide +kernel, by decide +kernel⟩, List.mem_of_getElem? (i := 612) (by decide +kernel), List.mem_of_getElem? (i := 815) (by decide +kernel), List.mem_of_getElem? (i := 816) (by decide +kernel)⟩
theorem lw_p57 : lw_okq (⟨"GuardedPoolModel", "read", "()V"⟩, 17) := ⟨⟨by decide +kernel, by decide +kernel⟩, List.mem_of_getElem? (i := 612) (by decide +kernel), List.mem_of_getElem? (i := 819) (by decide +kernel), List.mem_of_getElem? (i := 820) (by decide +kernel)⟩
theorem lw_p58 : lw_okq (⟨"GuardedPoolModel", "number", "(II)I"⟩, 17) := ⟨⟨by decide +kernel, by decide +kernel⟩, List.mem_of_getElem? (i := 612) (by decide +kernel), List.mem_of_getElem? (i := 823) (by decide +kernel), List.mem_of_getElem? (i := 824) (by decide +kernel)⟩
theorem lw_p59 : lw_okq (⟨"GuardedPoolModel", "sign", "(II)I"⟩, 17) := ⟨⟨by decide +kernel, by decide +kernel⟩, List.mem_of_getElem? (i := 612) (by decide +kernel), List.mem_of_getElem? (i := 827) (by decide +kernel), List.mem_of_getElem? (i := 828) (by decide +kernel)⟩
theorem lw_p60 : lw_okq (⟨"GuardedPoolModel", "does", "()I"⟩, 17) := ⟨⟨by decide +kernel, by decide +kernel⟩, List.mem_of_getElem? (i := 612) (by decide +kernel), List.mem_of_getElem? (i := 831) (by decide +kernel), List.mem_of_getElem? (i := 832) (by decide +kernel)⟩
theorem lw_p61 : lw_okq (⟨"GuardedPoolModel", "putAside", "()V"⟩, 17) := ⟨⟨by decide +kernel, by decide +kernel⟩, List.mem_of_getElem? (i := 612) (by decide +kernel), List.mem_of_getElem? (i := 835) (by decide +kernel), List.mem_of_getElem? (i := 836) (by decide +kernel)⟩
theorem lw_p62 : lw_okq (⟨"GuardedPoolModel", "putBack", "()V"⟩, 17) := ⟨⟨by decide +kernel, by decide +kernel⟩, List.mem_of_getElem? (i := 612) (by decide +kernel), List.mem_of_getElem? (i := 839) (by decide +kernel), List.mem_of_getElem? (i := 840) (by decide +kernel)⟩
theorem lw_p63 : lw_okq (⟨"GuardedPoolModel", "owned", "()I"⟩, 17) := ⟨⟨by decide +kernel, by decide +kernel⟩, List.mem_of_getElem? (i := 612) (by decide +kernel), List.mem_of_getElem? (i := 855) (by decide +kernel), List.mem_of_getElem? (i := 856) (by decide +kernel)⟩
def lw_privs_4 : List (MethodName × Nat) := [(⟨"GuardedPoolModel", "isGuard", "(I)Z"⟩, 17), (⟨"GuardedPoolModel", "puts", "(II)I"⟩, 17), (⟨"GuardedPoolModel", "blocksOf", "(I)I"⟩, 17), (⟨"GuardedPoolModel", "passFault", "(I)I"⟩, 17), (⟨"GuardedPoolModel", "passes", "(I)I"⟩, 17), (⟨"GuardedPoolModel", "leaks", "(I)I"⟩, 17), (⟨"GuardedPoolModel", "isLeak", "(I)Z"⟩, 17), (⟨"GuardedPoolModel", "sweeps", "()I"⟩, 17), (⟨"GuardedPoolModel", "go", "(Z)I"⟩, 17), (⟨"GuardedPoolModel", "read", "()V"⟩, 17), (⟨"GuardedPoolModel", "number", "(II)I"⟩, 17), (⟨"GuardedPoolModel", "sign", "(II)I"⟩, 17), (⟨"GuardedPoolModel", "does", "()I"⟩, 17), (⟨"GuardedPoolModel", "putAside", "()V"⟩, 17), (⟨"GuardedPoolModel", "putBack", "()V"⟩, 17), (⟨"GuardedPoolModel", "owned", "()I"⟩, 17)]
theorem lw_r4 : ∀ q ∈ lw_privs_4, lw_okq q := List.forall_mem_cons.mpr ⟨lw_p48, List.forall_mem_cons.mpr ⟨lw_p49, List.forall_mem_cons.mpr ⟨lw_p50, List.forall_mem_cons.mpr ⟨lw_p51, List.forall_mem_cons.mpr ⟨lw_p52, List.forall_mem_cons.mpr ⟨lw_p53, List.forall_mem_cons.mpr ⟨lw_p54, List.forall_mem_cons.mpr ⟨lw_p55, List.forall_mem_cons.mpr ⟨lw_p56, List.forall_mem_cons.mpr ⟨lw_p57, List.forall_mem_cons.mpr ⟨lw_p58, List.forall_mem_cons.mpr ⟨lw_p59, List.forall_mem_cons.mpr ⟨lw_p60, List.forall_mem_cons.mpr ⟨lw_p61, List.forall_mem_cons.mpr ⟨lw_p62, List.forall_mem_cons.mpr ⟨lw_p63, fun _ h => absurd h List.not_mem_nil⟩⟩⟩⟩⟩⟩⟩⟩⟩⟩⟩⟩⟩⟩⟩⟩
theorem lw_p64 : lw_okq (⟨"GuardedPoolModel", "asked", "(I)I"⟩, 17) := ⟨⟨by decide +kernel, by decide +kernel⟩, List.mem_of_getElem? (i := 612) (by decide +kernel), List.mem_of_getElem? (i := 878) (by decide +kernel), List.mem_of_getElem? (i := 879) (by decide +kernel)⟩
theorem lw_p65 : lw_okq (⟨"GuardedPoolModel", "ahead", "(I)I"⟩, 17) := ⟨⟨by decide +kernel, by decide +kernel⟩, List.mem_of_getElem? (i := 612) (by decide +kernel), List.mem_of_getElem? (i := 894) (by decide +kernel), List.mem_of_getElem? (i := 895) (by decide +kernel)⟩
theorem lw_p66 : lw_okq (⟨"GuardedPoolModel", "freeWords", "()I"⟩, 17) := ⟨⟨by decide +kernel, by decide +kernel⟩, List.mem_of_getElem? (i := 612) (by decide +kernel), List.mem_of_getElem? (i := 910) (by decide +kernel), List.mem_of_getElem? (i := 911) (by decide +kernel)⟩
def lw_privs_5 : List (MethodName × Nat) := [(⟨"GuardedPoolModel", "asked", "(I)I"⟩, 17), (⟨"GuardedPoolModel", "ahead", "(I)I"⟩, 17), (⟨"GuardedPoolModel", "freeWords", "()I"⟩, 17)]
theorem lw_r5 : ∀ q ∈ lw_privs_5, lw_okq q := List.forall_mem_cons.mpr ⟨lw_p64, List.forall_mem_cons.mpr ⟨lw_p65, List.forall_mem_cons.mpr ⟨lw_p66, fun _ h => absurd h List.not_mem_nil⟩⟩⟩
def lw_privs : List (MethodName × Nat) := lw_privs_1 ++ (lw_privs_2 ++ (lw_privs_3 ++ (lw_privs_4 ++ (lw_privs_5))))
def lw_tbl : List Cond := k2_sels lw_privs ++ tables_1
theorem lw_privs_ok : ∀ q ∈ lw_privs, lw_okq q := by
  show ∀ q ∈ lw_privs_1 ++ (lw_privs_2 ++ (lw_privs_3 ++ (lw_privs_4 ++ (lw_privs_5)))), lw_okq q
  exact List.forall_mem_append.mpr ⟨lw_r1, List.forall_mem_append.mpr ⟨lw_r2, List.forall_mem_append.mpr ⟨lw_r3, List.forall_mem_append.mpr ⟨lw_r4, lw_r5⟩⟩⟩⟩
end
section
/-! tables: classes, fields, methods, links; printed by wip/whole/gen_tables.py out of the claim -/
abbrev MI : Type := MethodName × ByteArray × Nat × Option FieldType × Room
abbrev mnm (y : MI) : MethodName := y.1
abbrev mbc (y : MI) : ByteArray := y.2.1
abbrev mml (y : MI) : Nat := y.2.2.1
abbrev mrt (y : MI) : Option FieldType := y.2.2.2.1
abbrev mrm (y : MI) : Room := y.2.2.2.2
def cnm (ci : Nat) : String := match ci with
  | 0 => "GuardedPool$Block"
  | 1 => "GuardedPool$Command"
  | 2 => "GuardedPool$History"
  | 3 => "GuardedPool$State"
  | 4 => "GuardedPool$Task"
  | 5 => "GuardedPool$Text"
  | 6 => "GuardedPool"
  | _ => "GuardedPoolModel"
/-- fields: name, descriptor, final, kind (0 int, 1 boolean, 2 reference) -/
def ftb (ci : Nat) : List (String × String × Bool × Nat) := match ci with
  | 0 => [("begin", "I", true, 0), ("size", "I", false, 0), ("owner", "I", false, 0), ("number", "I", false, 0), ("asked", "I", false, 0), ("used", "I", false, 0)]
  | 1 => [("kind", "I", false, 0), ("first", "I", false, 0), ("second", "I", false, 0)]
  | 2 => [("states", "[LGuardedPool$State;", true, 2), ("next", "I", false, 0), ("length", "I", false, 0)]
  | 3 => [("blocks", "[LGuardedPool$Block;", true, 2), ("values", "[I", true, 2), ("tasks", "[LGuardedPool$Task;", true, 2), ("clock", "I", false, 0), ("patience", "I", false, 0), ("granted", "I", false, 0), ("splits", "I", false, 0), ("joins", "I", false, 0), ("foundBroken", "I", false, 0)]
  | 4 => [("alive", "Z", false, 1), ("limit", "I", false, 0), ("guardsBroken", "I", false, 0)]
  | 5 => [("characters", "[C", true, 2), ("length", "I", false, 0), ("commands", "[LGuardedPool$Command;", true, 2), ("commandCount", "I", false, 0), ("position", "I", false, 0), ("faulty", "Z", false, 1)]
  | 6 => [("now", "LGuardedPool$State;", true, 2), ("before", "LGuardedPool$State;", true, 2), ("snapshot", "LGuardedPool$State;", true, 2), ("hasSnapshot", "Z", false, 1), ("history", "LGuardedPool$History;", true, 2), ("text", "LGuardedPool$Text;", true, 2), ("refusals", "[I", true, 2), ("hasStopped", "Z", false, 1), ("stoppedCommand", "I", false, 0), ("stoppedError", "I", false, 0)]
  | _ => [("s", "[I", true, 2), ("aside", "[I", true, 2), ("before", "[I", true, 2), ("known", "I", false, 0), ("kept", "[I", true, 2), ("isKept", "Z", false, 1), ("refusals", "[I", true, 2), ("text", "[I", true, 2), ("typed", "I", false, 0), ("stoppedAt", "I", false, 0), ("stoppedBy", "I", false, 0), ("at", "I", false, 0), ("isWrong", "Z", false, 1), ("letter", "I", false, 0), ("one", "I", false, 0), ("two", "I", false, 0), ("fault", "I", false, 0)]
def nfd (ci : Nat) : Nat := match ci with
  | 0 => 6
  | 1 => 3
  | 2 => 3
  | 3 => 9
  | 4 => 3
  | 5 => 6
  | 6 => 10
  | _ => 17
def Tcl (ci : Nat) : u_T := fun k => (cnm ci, ((ftb ci).getD k ("", "I", false, 0)).1, ((ftb ci).getD k ("", "I", false, 0)).2.1, ((ftb ci).getD k ("", "I", false, 0)).2.2.1)
def tyk (ci k : Nat) : Nat := ((ftb ci).getD k ("", "I", false, 0)).2.2.2
def tyc (ci : Nat) : Nat → FieldType := fun k => (parseFieldDescriptor (Tcl ci k).2.2.1).getD .int
def cls_l : List vw_C := [(cnm 0, Tcl 0, 6), (cnm 1, Tcl 1, 3), (cnm 2, Tcl 2, 3), (cnm 3, Tcl 3, 9), (cnm 4, Tcl 4, 3), (cnm 5, Tcl 5, 6), (cnm 6, Tcl 6, 10), (cnm 7, Tcl 7, 17)]
theorem tyc_ok : ∀ ci, ci < 8 → ∀ k, k < nfd ci → parseFieldDescriptor (Tcl ci k).2.2.1 = some (tyc ci k) := by decide +kernel
theorem nm_ok : ∀ ci, ci < 8 → ∀ a, a < nfd ci → ∀ b, b < nfd ci → a ≠ b → (Tcl ci a).2.1 ≠ (Tcl ci b).2.1 := by decide +kernel
theorem cls_ok : ∀ ci, ci < 8 → cls_l[ci]? = some (cnm ci, Tcl ci, nfd ci) := by
  intro ci h
  match ci, h with
  | 0, _ => rfl
  | 1, _ => rfl
  | 2, _ => rfl
  | 3, _ => rfl
  | 4, _ => rfl
  | 5, _ => rfl
  | 6, _ => rfl
  | 7, _ => rfl
theorem in_raw (i : Nat) {w : Cond} (h : tables_1[i]? = some w) : w ∈ lw_tbl := List.mem_append_right _ (List.mem_of_getElem? h)
def lw_g : List Cond := lw_tbl.filter goodWord
theorem in_tbl (i : Nat) {w : Cond} (h : tables_1[i]? = some w ∧ goodWord w = true) : w ∈ lw_g := List.mem_filter.mpr ⟨List.mem_append_right _ (List.mem_of_getElem? h.1), h.2⟩
theorem in_sel (i : Nat) {w : Cond} (h : (k2_sels lw_privs)[i]? = some w ∧ goodWord w = true) : w ∈ lw_g := List.mem_filter.mpr ⟨List.mem_append_left _ (List.mem_of_getElem? h.1), h.2⟩
theorem lw_good : ∀ w ∈ lw_g, (w.onTables && w.keeps) = true ∨ ∃ ty, w = .arrayClass ty := fun w h => good_of_word (List.mem_filter.mp h).2
theorem lay_Blk : ∀ w ∈ u_ws (cnm 0) (Tcl 0) 6, w ∈ lw_g := by
  intro w hw
  obtain ⟨k, hk, rfl⟩ := List.mem_map.mp hw
  have hk := List.mem_range.mp hk
  rcases (show k = 0 ∨ k = 1 ∨ k = 2 ∨ k = 3 ∨ k = 4 ∨ k = 5 by omega) with rfl | rfl | rfl | rfl | rfl | rfl
  · exact in_tbl 44 (by decide +kernel)
  · exact in_tbl 46 (by decide +kernel)
  · exact in_tbl 48 (by decide +kernel)
  · exact in_tbl 50 (by decide +kernel)
  · exact in_tbl 52 (by decide +kernel)
  · exact in_tbl 54 (by decide +kernel)
theorem lay_Cmd : ∀ w ∈ u_ws (cnm 1) (Tcl 1) 3, w ∈ lw_g := by
  intro w hw
  obtain ⟨k, hk, rfl⟩ := List.mem_map.mp hw
  have hk := List.mem_range.mp hk
  rcases (show k = 0 ∨ k = 1 ∨ k = 2 by omega) with rfl | rfl | rfl
  · exact in_tbl 144 (by decide +kernel)
  · exact in_tbl 146 (by decide +kernel)
  · exact in_tbl 148 (by decide +kernel)
theorem lay_His : ∀ w ∈ u_ws (cnm 2) (Tcl 2) 3, w ∈ lw_g := by
  intro w hw
  obtain ⟨k, hk, rfl⟩ := List.mem_map.mp hw
  have hk := List.mem_range.mp hk
  rcases (show k = 0 ∨ k = 1 ∨ k = 2 by omega) with rfl | rfl | rfl
  · exact in_tbl 118 (by decide +kernel)
  · exact in_tbl 120 (by decide +kernel)
  · exact in_tbl 122 (by decide +kernel)
theorem lay_Sta : ∀ w ∈ u_ws (cnm 3) (Tcl 3) 9, w ∈ lw_g := by
  intro w hw
  obtain ⟨k, hk, rfl⟩ := List.mem_map.mp hw
  have hk := List.mem_range.mp hk
  rcases (show k = 0 ∨ k = 1 ∨ k = 2 ∨ k = 3 ∨ k = 4 ∨ k = 5 ∨ k = 6 ∨ k = 7 ∨ k = 8 by omega) with rfl | rfl | rfl | rfl | rfl | rfl | rfl | rfl | rfl
  · exact in_tbl 87 (by decide +kernel)
  · exact in_tbl 89 (by decide +kernel)
  · exact in_tbl 91 (by decide +kernel)
  · exact in_tbl 93 (by decide +kernel)
  · exact in_tbl 95 (by decide +kernel)
  · exact in_tbl 97 (by decide +kernel)
  · exact in_tbl 99 (by decide +kernel)
  · exact in_tbl 101 (by decide +kernel)
  · exact in_tbl 103 (by decide +kernel)
theorem lay_Tsk : ∀ w ∈ u_ws (cnm 4) (Tcl 4) 3, w ∈ lw_g := by
  intro w hw
  obtain ⟨k, hk, rfl⟩ := List.mem_map.mp hw
  have hk := List.mem_range.mp hk
  rcases (show k = 0 ∨ k = 1 ∨ k = 2 by omega) with rfl | rfl | rfl
  · exact in_tbl 70 (by decide +kernel)
  · exact in_tbl 72 (by decide +kernel)
  · exact in_tbl 74 (by decide +kernel)
theorem lay_Txt : ∀ w ∈ u_ws (cnm 5) (Tcl 5) 6, w ∈ lw_g := by
  intro w hw
  obtain ⟨k, hk, rfl⟩ := List.mem_map.mp hw
  have hk := List.mem_range.mp hk
  rcases (show k = 0 ∨ k = 1 ∨ k = 2 ∨ k = 3 ∨ k = 4 ∨ k = 5 by omega) with rfl | rfl | rfl | rfl | rfl | rfl
  · exact in_tbl 158 (by decide +kernel)
  · exact in_tbl 160 (by decide +kernel)
  · exact in_tbl 162 (by decide +kernel)
  · exact in_tbl 164 (by decide +kernel)
  · exact in_tbl 166 (by decide +kernel)
  · exact in_tbl 168 (by decide +kernel)
theorem lay_Poo : ∀ w ∈ u_ws (cnm 6) (Tcl 6) 10, w ∈ lw_g := by
  intro w hw
  obtain ⟨k, hk, rfl⟩ := List.mem_map.mp hw
  have hk := List.mem_range.mp hk
  rcases (show k = 0 ∨ k = 1 ∨ k = 2 ∨ k = 3 ∨ k = 4 ∨ k = 5 ∨ k = 6 ∨ k = 7 ∨ k = 8 ∨ k = 9 by omega) with rfl | rfl | rfl | rfl | rfl | rfl | rfl | rfl | rfl | rfl
  · exact in_tbl 181 (by decide +kernel)
  · exact in_tbl 183 (by decide +kernel)
  · exact in_tbl 185 (by decide +kernel)
  · exact in_tbl 187 (by decide +kernel)
  · exact in_tbl 189 (by decide +kernel)
  · exact in_tbl 191 (by decide +kernel)
  · exact in_tbl 193 (by decide +kernel)
  · exact in_tbl 195 (by decide +kernel)
  · exact in_tbl 197 (by decide +kernel)
  · exact in_tbl 199 (by decide +kernel)
theorem lay_Mod : ∀ w ∈ u_ws (cnm 7) (Tcl 7) 17, w ∈ lw_g := by
  intro w hw
  obtain ⟨k, hk, rfl⟩ := List.mem_map.mp hw
  have hk := List.mem_range.mp hk
  rcases (show k = 0 ∨ k = 1 ∨ k = 2 ∨ k = 3 ∨ k = 4 ∨ k = 5 ∨ k = 6 ∨ k = 7 ∨ k = 8 ∨ k = 9 ∨ k = 10 ∨ k = 11 ∨ k = 12 ∨ k = 13 ∨ k = 14 ∨ k = 15 ∨ k = 16 by omega) with rfl | rfl | rfl | rfl | rfl | rfl | rfl | rfl | rfl | rfl | rfl | rfl | rfl | rfl | rfl | rfl | rfl
  · exact in_tbl 634 (by decide +kernel)
  · exact in_tbl 636 (by decide +kernel)
  · exact in_tbl 638 (by decide +kernel)
  · exact in_tbl 640 (by decide +kernel)
  · exact in_tbl 642 (by decide +kernel)
  · exact in_tbl 644 (by decide +kernel)
  · exact in_tbl 646 (by decide +kernel)
  · exact in_tbl 648 (by decide +kernel)
  · exact in_tbl 650 (by decide +kernel)
  · exact in_tbl 652 (by decide +kernel)
  · exact in_tbl 654 (by decide +kernel)
  · exact in_tbl 656 (by decide +kernel)
  · exact in_tbl 658 (by decide +kernel)
  · exact in_tbl 660 (by decide +kernel)
  · exact in_tbl 662 (by decide +kernel)
  · exact in_tbl 664 (by decide +kernel)
  · exact in_tbl 666 (by decide +kernel)
theorem lay_ok : ∀ ci, ci < 8 → ∀ w ∈ u_ws (cnm ci) (Tcl ci) (nfd ci), w ∈ lw_g := by
  intro ci h
  match ci, h with
  | 0, _ => exact lay_Blk
  | 1, _ => exact lay_Cmd
  | 2, _ => exact lay_His
  | 3, _ => exact lay_Sta
  | 4, _ => exact lay_Tsk
  | 5, _ => exact lay_Txt
  | 6, _ => exact lay_Poo
  | 7, _ => exact lay_Mod
theorem ini_Law : Cond.initialized "GuardedPoolLaw" ∈ lw_g := in_tbl 0 (by decide +kernel)
theorem ini_Poo : Cond.initialized "GuardedPool" ∈ lw_g := in_tbl 1 (by decide +kernel)
theorem ini_Sta : Cond.initialized "GuardedPool$State" ∈ lw_g := in_tbl 2 (by decide +kernel)
theorem ini_Blk : Cond.initialized "GuardedPool$Block" ∈ lw_g := in_tbl 3 (by decide +kernel)
theorem ini_Tsk : Cond.initialized "GuardedPool$Task" ∈ lw_g := in_tbl 4 (by decide +kernel)
theorem ini_His : Cond.initialized "GuardedPool$History" ∈ lw_g := in_tbl 5 (by decide +kernel)
theorem ini_Txt : Cond.initialized "GuardedPool$Text" ∈ lw_g := in_tbl 6 (by decide +kernel)
theorem ini_Cmd : Cond.initialized "GuardedPool$Command" ∈ lw_g := in_tbl 7 (by decide +kernel)
theorem ini_Mod : Cond.initialized "GuardedPoolModel" ∈ lw_g := in_tbl 8 (by decide +kernel)
theorem ini_System : Cond.initialized "java/lang/System" ∈ lw_g := in_tbl 9 (by decide +kernel)
theorem ini_Math : Cond.initialized "java/lang/Math" ∈ lw_g := in_tbl 10 (by decide +kernel)
def mi_Poo_init : MI := (⟨"GuardedPool", "<init>", "()V"⟩, prog_1_method_1_code, 1, none, ({ frames := 4, cells := 218, slots := 1659, locals := 85 } : Room))
def mi_Sta_init : MI := (⟨"GuardedPool$State", "<init>", "()V"⟩, prog_5_method_1_code, 3, none, ({ frames := 2, cells := 25, slots := 200, locals := 42 } : Room))
def mi_Blk_init : MI := (⟨"GuardedPool$Block", "<init>", "(II)V"⟩, prog_2_method_1_code, 3, none, ({ frames := 1, cells := 0, slots := 0, locals := 20 } : Room))
def mi_Tsk_init : MI := (⟨"GuardedPool$Task", "<init>", "()V"⟩, prog_6_method_1_code, 1, none, ({ frames := 1, cells := 0, slots := 0, locals := 20 } : Room))
def mi_His_init : MI := (⟨"GuardedPool$History", "<init>", "()V"⟩, prog_4_method_1_code, 2, none, ({ frames := 3, cells := 105, slots := 840, locals := 64 } : Room))
def mi_Txt_init : MI := (⟨"GuardedPool$Text", "<init>", "()V"⟩, prog_7_method_1_code, 2, none, ({ frames := 2, cells := 32, slots := 180, locals := 40 } : Room))
def mi_Cmd_init : MI := (⟨"GuardedPool$Command", "<init>", "()V"⟩, prog_3_method_1_code, 1, none, ({ frames := 1, cells := 0, slots := 0, locals := 20 } : Room))
def mi_Poo_ask : MI := (⟨"GuardedPool", "ask", "(II)I"⟩, prog_1_method_2_code, 4, some .int, ({ frames := 5, cells := 0, slots := 0, locals := 117 } : Room))
def mi_Sta_copyFrom : MI := (⟨"GuardedPool$State", "copyFrom", "(LGuardedPool$State;)V"⟩, prog_5_method_2_code, 3, none, ({ frames := 1, cells := 0, slots := 0, locals := 40 } : Room))
def mi_Blk_copyFrom : MI := (⟨"GuardedPool$Block", "copyFrom", "(LGuardedPool$Block;)V"⟩, prog_2_method_3_code, 2, none, ({ frames := 0, cells := 0, slots := 0, locals := 0 } : Room))
def mi_Tsk_copyFrom : MI := (⟨"GuardedPool$Task", "copyFrom", "(LGuardedPool$Task;)V"⟩, prog_6_method_2_code, 2, none, ({ frames := 0, cells := 0, slots := 0, locals := 0 } : Room))
def mi_Sta_grant : MI := (⟨"GuardedPool$State", "grant", "(II)I"⟩, prog_5_method_3_code, 5, some .int, ({ frames := 4, cells := 0, slots := 0, locals := 93 } : Room))
def mi_Sta_whyNot : MI := (⟨"GuardedPool$State", "whyNot", "(II)I"⟩, prog_5_method_34_code, 5, some .int, ({ frames := 3, cells := 0, slots := 0, locals := 69 } : Room))
def mi_Sta_taskOf : MI := (⟨"GuardedPool$State", "taskOf", "(I)LGuardedPool$Task;"⟩, prog_5_method_19_code, 2, some (.object "GuardedPool$Task"), ({ frames := 0, cells := 0, slots := 0, locals := 0 } : Room))
def mi_Sta_sizeFor : MI := (⟨"GuardedPool$State", "sizeFor", "(I)I"⟩, prog_5_method_12_code, 2, some .int, ({ frames := 1, cells := 0, slots := 0, locals := 20 } : Room))
def mi_Blk_wordsOf : MI := (⟨"GuardedPool$Block", "wordsOf", "(I)I"⟩, prog_2_method_2_code, 1, some .int, ({ frames := 0, cells := 0, slots := 0, locals := 0 } : Room))
def mi_Sta_wordsOf : MI := (⟨"GuardedPool$State", "wordsOf", "(I)I"⟩, prog_5_method_43_code, 7, some .int, ({ frames := 2, cells := 0, slots := 0, locals := 40 } : Room))
def mi_Blk_words : MI := (⟨"GuardedPool$Block", "words", "()I"⟩, prog_2_method_4_code, 1, some .int, ({ frames := 1, cells := 0, slots := 0, locals := 20 } : Room))
def mi_Sta_roomFor : MI := (⟨"GuardedPool$State", "roomFor", "(I)LGuardedPool$Block;"⟩, prog_5_method_14_code, 4, some (.object "GuardedPool$Block"), ({ frames := 2, cells := 0, slots := 0, locals := 46 } : Room))
def mi_Sta_lowestFree : MI := (⟨"GuardedPool$State", "lowestFree", "(I)LGuardedPool$Block;"⟩, prog_5_method_13_code, 6, some (.object "GuardedPool$Block"), ({ frames := 1, cells := 0, slots := 0, locals := 21 } : Room))
def mi_Blk_isFreeOf : MI := (⟨"GuardedPool$Block", "isFreeOf", "(I)Z"⟩, prog_2_method_6_code, 2, some .boolean, ({ frames := 0, cells := 0, slots := 0, locals := 0 } : Room))
def mi_Sta_cutOut : MI := (⟨"GuardedPool$State", "cutOut", "(I)LGuardedPool$Block;"⟩, prog_5_method_15_code, 4, some (.object "GuardedPool$Block"), ({ frames := 3, cells := 0, slots := 0, locals := 69 } : Room))
def mi_Sta_halve : MI := (⟨"GuardedPool$State", "halve", "(LGuardedPool$Block;)V"⟩, prog_5_method_16_code, 3, none, ({ frames := 2, cells := 0, slots := 0, locals := 40 } : Room))
def mi_Sta_placeAt : MI := (⟨"GuardedPool$State", "placeAt", "(I)LGuardedPool$Block;"⟩, prog_5_method_22_code, 2, some (.object "GuardedPool$Block"), ({ frames := 0, cells := 0, slots := 0, locals := 0 } : Room))
def mi_Poo_countRefusal : MI := (⟨"GuardedPool", "countRefusal", "(I)V"⟩, prog_1_method_29_code, 2, none, ({ frames := 0, cells := 0, slots := 0, locals := 0 } : Room))
def mi_Poo_recorded : MI := (⟨"GuardedPool", "recorded", "(I)I"⟩, prog_1_method_28_code, 2, some .int, ({ frames := 3, cells := 0, slots := 0, locals := 83 } : Room))
def mi_His_record : MI := (⟨"GuardedPool$History", "record", "(LGuardedPool$State;)V"⟩, prog_4_method_3_code, 2, none, ({ frames := 2, cells := 0, slots := 0, locals := 62 } : Room))
def mi_Poo_giveBack : MI := (⟨"GuardedPool", "giveBack", "(II)I"⟩, prog_1_method_3_code, 3, some .int, ({ frames := 4, cells := 0, slots := 0, locals := 104 } : Room))
def mi_Sta_takeBack : MI := (⟨"GuardedPool$State", "takeBack", "(II)I"⟩, prog_5_method_4_code, 4, some .int, ({ frames := 3, cells := 0, slots := 0, locals := 70 } : Room))
def mi_Sta_blockOf : MI := (⟨"GuardedPool$State", "blockOf", "(I)LGuardedPool$Block;"⟩, prog_5_method_20_code, 6, some (.object "GuardedPool$Block"), ({ frames := 1, cells := 0, slots := 0, locals := 20 } : Room))
def mi_Blk_isOwned : MI := (⟨"GuardedPool$Block", "isOwned", "()Z"⟩, prog_2_method_5_code, 1, some .boolean, ({ frames := 0, cells := 0, slots := 0, locals := 0 } : Room))
def mi_Sta_free : MI := (⟨"GuardedPool$State", "free", "(LGuardedPool$Block;)I"⟩, prog_5_method_17_code, 5, some .int, ({ frames := 2, cells := 0, slots := 0, locals := 46 } : Room))
def mi_Sta_brokenGuards : MI := (⟨"GuardedPool$State", "brokenGuards", "(LGuardedPool$Block;)I"⟩, prog_5_method_26_code, 4, some .int, ({ frames := 1, cells := 0, slots := 0, locals := 21 } : Room))
def mi_Sta_valueAt : MI := (⟨"GuardedPool$State", "valueAt", "(I)I"⟩, prog_5_method_23_code, 2, some .int, ({ frames := 0, cells := 0, slots := 0, locals := 0 } : Room))
def mi_Blk_rearGuard : MI := (⟨"GuardedPool$Block", "rearGuard", "()I"⟩, prog_2_method_8_code, 1, some .int, ({ frames := 0, cells := 0, slots := 0, locals := 0 } : Room))
def mi_Sta_setValue : MI := (⟨"GuardedPool$State", "setValue", "(II)V"⟩, prog_5_method_24_code, 3, none, ({ frames := 0, cells := 0, slots := 0, locals := 0 } : Room))
def mi_Sta_joinTwins : MI := (⟨"GuardedPool$State", "joinTwins", "(LGuardedPool$Block;)V"⟩, prog_5_method_18_code, 6, none, ({ frames := 1, cells := 0, slots := 0, locals := 21 } : Room))
def mi_Poo_write : MI := (⟨"GuardedPool", "write", "(IIII)I"⟩, prog_1_method_4_code, 5, some .int, ({ frames := 5, cells := 0, slots := 0, locals := 115 } : Room))
def mi_Sta_put : MI := (⟨"GuardedPool$State", "put", "(IIII)I"⟩, prog_5_method_5_code, 10, some .int, ({ frames := 4, cells := 0, slots := 0, locals := 86 } : Room))
def mi_Sta_blockAt : MI := (⟨"GuardedPool$State", "blockAt", "(I)LGuardedPool$Block;"⟩, prog_5_method_21_code, 6, some (.object "GuardedPool$Block"), ({ frames := 3, cells := 0, slots := 0, locals := 61 } : Room))
def mi_Blk_holds : MI := (⟨"GuardedPool$Block", "holds", "(I)Z"⟩, prog_2_method_7_code, 2, some .boolean, ({ frames := 2, cells := 0, slots := 0, locals := 40 } : Room))
def mi_Sta_kindOfHit : MI := (⟨"GuardedPool$State", "kindOfHit", "(ILGuardedPool$Block;LGuardedPool$Block;)I"⟩, prog_5_method_25_code, 3, some .int, ({ frames := 2, cells := 0, slots := 0, locals := 41 } : Room))
def mi_Blk_hasGuardAt : MI := (⟨"GuardedPool$Block", "hasGuardAt", "(I)Z"⟩, prog_2_method_9_code, 2, some .boolean, ({ frames := 1, cells := 0, slots := 0, locals := 20 } : Room))
def mi_Blk_wasAskedFor : MI := (⟨"GuardedPool$Block", "wasAskedFor", "(I)Z"⟩, prog_2_method_10_code, 2, some .boolean, ({ frames := 1, cells := 0, slots := 0, locals := 20 } : Room))
def mi_Poo_touch : MI := (⟨"GuardedPool", "touch", "(I)I"⟩, prog_1_method_5_code, 2, some .int, ({ frames := 4, cells := 0, slots := 0, locals := 104 } : Room))
def mi_Sta_useNow : MI := (⟨"GuardedPool$State", "useNow", "(I)I"⟩, prog_5_method_6_code, 4, some .int, ({ frames := 2, cells := 0, slots := 0, locals := 45 } : Room))
def mi_Sta_ageOf : MI := (⟨"GuardedPool$State", "ageOf", "(LGuardedPool$Block;)I"⟩, prog_5_method_27_code, 2, some .int, ({ frames := 0, cells := 0, slots := 0, locals := 0 } : Room))
def mi_Poo_live : MI := (⟨"GuardedPool", "live", "(IZ)I"⟩, prog_1_method_6_code, 3, some .int, ({ frames := 4, cells := 0, slots := 0, locals := 104 } : Room))
def mi_Sta_makeAlive : MI := (⟨"GuardedPool$State", "makeAlive", "(IZ)I"⟩, prog_5_method_7_code, 4, some .int, ({ frames := 1, cells := 0, slots := 0, locals := 26 } : Room))
def mi_Sta_blocksOf : MI := (⟨"GuardedPool$State", "blocksOf", "(I)I"⟩, prog_5_method_42_code, 7, some .int, ({ frames := 0, cells := 0, slots := 0, locals := 0 } : Room))
def mi_Poo_setLimit : MI := (⟨"GuardedPool", "setLimit", "(II)I"⟩, prog_1_method_7_code, 3, some .int, ({ frames := 4, cells := 0, slots := 0, locals := 104 } : Room))
def mi_Sta_changeLimit : MI := (⟨"GuardedPool$State", "changeLimit", "(II)I"⟩, prog_5_method_8_code, 5, some .int, ({ frames := 1, cells := 0, slots := 0, locals := 21 } : Room))
def mi_Poo_setPatience : MI := (⟨"GuardedPool", "setPatience", "(I)I"⟩, prog_1_method_8_code, 2, some .int, ({ frames := 4, cells := 0, slots := 0, locals := 104 } : Room))
def mi_Sta_changePatience : MI := (⟨"GuardedPool$State", "changePatience", "(I)I"⟩, prog_5_method_9_code, 3, some .int, ({ frames := 0, cells := 0, slots := 0, locals := 0 } : Room))
def mi_Poo_pass : MI := (⟨"GuardedPool", "pass", "(I)I"⟩, prog_1_method_9_code, 2, some .int, ({ frames := 5, cells := 0, slots := 0, locals := 113 } : Room))
def mi_Sta_advance : MI := (⟨"GuardedPool$State", "advance", "(I)I"⟩, prog_5_method_10_code, 3, some .int, ({ frames := 4, cells := 0, slots := 0, locals := 91 } : Room))
def mi_Sta_leaks : MI := (⟨"GuardedPool$State", "leaks", "()I"⟩, prog_5_method_41_code, 3, some .int, ({ frames := 3, cells := 0, slots := 0, locals := 69 } : Room))
def mi_Sta_leaksOf : MI := (⟨"GuardedPool$State", "leaksOf", "(I)I"⟩, prog_5_method_45_code, 7, some .int, ({ frames := 2, cells := 0, slots := 0, locals := 43 } : Room))
def mi_Sta_isLeak : MI := (⟨"GuardedPool$State", "isLeak", "(LGuardedPool$Block;)Z"⟩, prog_5_method_28_code, 3, some .boolean, ({ frames := 1, cells := 0, slots := 0, locals := 21 } : Room))
def mi_Poo_sweep : MI := (⟨"GuardedPool", "sweep", "()I"⟩, prog_1_method_10_code, 1, some .int, ({ frames := 4, cells := 0, slots := 0, locals := 104 } : Room))
def mi_Sta_takeLeaksBack : MI := (⟨"GuardedPool$State", "takeLeaksBack", "()I"⟩, prog_5_method_11_code, 6, some .int, ({ frames := 3, cells := 0, slots := 0, locals := 70 } : Room))
def mi_Poo_type : MI := (⟨"GuardedPool", "type", "(C)I"⟩, prog_1_method_11_code, 2, some .int, ({ frames := 1, cells := 0, slots := 0, locals := 21 } : Room))
def mi_Txt_append : MI := (⟨"GuardedPool$Text", "append", "(C)I"⟩, prog_7_method_5_code, 2, some .int, ({ frames := 0, cells := 0, slots := 0, locals := 0 } : Room))
def mi_Poo_clearText : MI := (⟨"GuardedPool", "clearText", "()I"⟩, prog_1_method_12_code, 1, some .int, ({ frames := 1, cells := 0, slots := 0, locals := 21 } : Room))
def mi_Txt_drop : MI := (⟨"GuardedPool$Text", "drop", "()I"⟩, prog_7_method_6_code, 2, some .int, ({ frames := 0, cells := 0, slots := 0, locals := 0 } : Room))
def mi_Poo_perform : MI := (⟨"GuardedPool", "perform", "()I"⟩, prog_1_method_13_code, 5, some .int, ({ frames := 6, cells := 0, slots := 0, locals := 138 } : Room))
def mi_Txt_read : MI := (⟨"GuardedPool$Text", "read", "()I"⟩, prog_7_method_7_code, 2, some .int, ({ frames := 5, cells := 0, slots := 0, locals := 111 } : Room))
def mi_Txt_readCommand : MI := (⟨"GuardedPool$Text", "readCommand", "(LGuardedPool$Command;)V"⟩, prog_7_method_8_code, 2, none, ({ frames := 4, cells := 0, slots := 0, locals := 90 } : Room))
def mi_Txt_signHere : MI := (⟨"GuardedPool$Text", "signHere", "()C"⟩, prog_7_method_13_code, 2, some .char, ({ frames := 0, cells := 0, slots := 0, locals := 0 } : Room))
def mi_Txt_readTwoNumbers : MI := (⟨"GuardedPool$Text", "readTwoNumbers", "(LGuardedPool$Command;II)V"⟩, prog_7_method_9_code, 4, none, ({ frames := 3, cells := 0, slots := 0, locals := 67 } : Room))
def mi_Txt_readNumber : MI := (⟨"GuardedPool$Text", "readNumber", "(II)I"⟩, prog_7_method_11_code, 6, some .int, ({ frames := 2, cells := 0, slots := 0, locals := 42 } : Room))
def mi_Txt_digitHere : MI := (⟨"GuardedPool$Text", "digitHere", "()I"⟩, prog_7_method_12_code, 2, some .int, ({ frames := 1, cells := 0, slots := 0, locals := 21 } : Room))
def mi_Txt_readSign : MI := (⟨"GuardedPool$Text", "readSign", "(C)V"⟩, prog_7_method_10_code, 2, none, ({ frames := 1, cells := 0, slots := 0, locals := 21 } : Room))
def mi_Txt_commandCount : MI := (⟨"GuardedPool$Text", "commandCount", "()I"⟩, prog_7_method_3_code, 1, some .int, ({ frames := 0, cells := 0, slots := 0, locals := 0 } : Room))
def mi_Txt_commandAt : MI := (⟨"GuardedPool$Text", "commandAt", "(I)LGuardedPool$Command;"⟩, prog_7_method_4_code, 2, some (.object "GuardedPool$Command"), ({ frames := 0, cells := 0, slots := 0, locals := 0 } : Room))
def mi_Poo_answerTo : MI := (⟨"GuardedPool", "answerTo", "(LGuardedPool$Command;)I"⟩, prog_1_method_31_code, 2, some .int, ({ frames := 5, cells := 0, slots := 0, locals := 117 } : Room))
def mi_Poo_isError : MI := (⟨"GuardedPool", "isError", "(I)Z"⟩, prog_1_method_27_code, 1, some .boolean, ({ frames := 0, cells := 0, slots := 0, locals := 0 } : Room))
def mi_Poo_noteStop : MI := (⟨"GuardedPool", "noteStop", "(II)V"⟩, prog_1_method_30_code, 3, none, ({ frames := 0, cells := 0, slots := 0, locals := 0 } : Room))
def mi_Poo_stopped : MI := (⟨"GuardedPool", "stopped", "(I)I"⟩, prog_1_method_14_code, 2, some .int, ({ frames := 0, cells := 0, slots := 0, locals := 0 } : Room))
def mi_Poo_undo : MI := (⟨"GuardedPool", "undo", "()I"⟩, prog_1_method_15_code, 1, some .int, ({ frames := 3, cells := 0, slots := 0, locals := 84 } : Room))
def mi_His_takeLatest : MI := (⟨"GuardedPool$History", "takeLatest", "(LGuardedPool$State;)I"⟩, prog_4_method_4_code, 3, some .int, ({ frames := 2, cells := 0, slots := 0, locals := 62 } : Room))
def mi_Poo_keep : MI := (⟨"GuardedPool", "keep", "()I"⟩, prog_1_method_16_code, 1, some .int, ({ frames := 2, cells := 0, slots := 0, locals := 62 } : Room))
def mi_Sta_ownedBlocks : MI := (⟨"GuardedPool$State", "ownedBlocks", "()I"⟩, prog_5_method_38_code, 3, some .int, ({ frames := 1, cells := 0, slots := 0, locals := 26 } : Room))
def mi_Poo_restore : MI := (⟨"GuardedPool", "restore", "()I"⟩, prog_1_method_17_code, 1, some .int, ({ frames := 4, cells := 0, slots := 0, locals := 104 } : Room))
def mi_Poo_block : MI := (⟨"GuardedPool", "block", "(II)I"⟩, prog_1_method_18_code, 3, some .int, ({ frames := 3, cells := 0, slots := 0, locals := 68 } : Room))
def mi_Sta_tellBlock : MI := (⟨"GuardedPool$State", "tellBlock", "(II)I"⟩, prog_5_method_29_code, 4, some .int, ({ frames := 2, cells := 0, slots := 0, locals := 45 } : Room))
def mi_Poo_word : MI := (⟨"GuardedPool", "word", "(II)I"⟩, prog_1_method_19_code, 3, some .int, ({ frames := 5, cells := 0, slots := 0, locals := 109 } : Room))
def mi_Sta_tellWord : MI := (⟨"GuardedPool$State", "tellWord", "(II)I"⟩, prog_5_method_30_code, 4, some .int, ({ frames := 4, cells := 0, slots := 0, locals := 86 } : Room))
def mi_Poo_task : MI := (⟨"GuardedPool", "task", "(II)I"⟩, prog_1_method_20_code, 3, some .int, ({ frames := 4, cells := 0, slots := 0, locals := 92 } : Room))
def mi_Sta_tellTask : MI := (⟨"GuardedPool$State", "tellTask", "(II)I"⟩, prog_5_method_31_code, 4, some .int, ({ frames := 3, cells := 0, slots := 0, locals := 69 } : Room))
def mi_Sta_askedBy : MI := (⟨"GuardedPool$State", "askedBy", "(I)I"⟩, prog_5_method_44_code, 7, some .int, ({ frames := 0, cells := 0, slots := 0, locals := 0 } : Room))
def mi_Poo_reason : MI := (⟨"GuardedPool", "reason", "(II)I"⟩, prog_1_method_21_code, 3, some .int, ({ frames := 4, cells := 0, slots := 0, locals := 93 } : Room))
def mi_Poo_greatest : MI := (⟨"GuardedPool", "greatest", "(I)I"⟩, prog_1_method_22_code, 2, some .int, ({ frames := 5, cells := 0, slots := 0, locals := 115 } : Room))
def mi_Sta_greatestRequest : MI := (⟨"GuardedPool$State", "greatestRequest", "(I)I"⟩, prog_5_method_35_code, 3, some .int, ({ frames := 4, cells := 0, slots := 0, locals := 93 } : Room))
def mi_Poo_leak : MI := (⟨"GuardedPool", "leak", "(I)I"⟩, prog_1_method_23_code, 2, some .int, ({ frames := 4, cells := 0, slots := 0, locals := 95 } : Room))
def mi_Sta_leakOfRank : MI := (⟨"GuardedPool$State", "leakOfRank", "(I)I"⟩, prog_5_method_36_code, 6, some .int, ({ frames := 3, cells := 0, slots := 0, locals := 70 } : Room))
def mi_Sta_leaksAheadOf : MI := (⟨"GuardedPool$State", "leaksAheadOf", "(LGuardedPool$Block;)I"⟩, prog_5_method_37_code, 8, some .int, ({ frames := 2, cells := 0, slots := 0, locals := 43 } : Room))
def mi_Poo_refused : MI := (⟨"GuardedPool", "refused", "(I)I"⟩, prog_1_method_24_code, 2, some .int, ({ frames := 0, cells := 0, slots := 0, locals := 0 } : Room))
def mi_Poo_size : MI := (⟨"GuardedPool", "size", "(II)I"⟩, prog_1_method_25_code, 3, some .int, ({ frames := 3, cells := 0, slots := 0, locals := 70 } : Room))
def mi_Sta_tellSize : MI := (⟨"GuardedPool$State", "tellSize", "(II)I"⟩, prog_5_method_32_code, 4, some .int, ({ frames := 2, cells := 0, slots := 0, locals := 47 } : Room))
def mi_Sta_blocksOfSize : MI := (⟨"GuardedPool$State", "blocksOfSize", "(IZ)I"⟩, prog_5_method_46_code, 8, some .int, ({ frames := 1, cells := 0, slots := 0, locals := 20 } : Room))
def mi_Poo_count : MI := (⟨"GuardedPool", "count", "(I)I"⟩, prog_1_method_26_code, 2, some .int, ({ frames := 5, cells := 0, slots := 0, locals := 112 } : Room))
def mi_His_length : MI := (⟨"GuardedPool$History", "length", "()I"⟩, prog_4_method_2_code, 1, some .int, ({ frames := 0, cells := 0, slots := 0, locals := 0 } : Room))
def mi_Txt_length : MI := (⟨"GuardedPool$Text", "length", "()I"⟩, prog_7_method_2_code, 1, some .int, ({ frames := 0, cells := 0, slots := 0, locals := 0 } : Room))
def mi_Sta_tellCount : MI := (⟨"GuardedPool$State", "tellCount", "(I)I"⟩, prog_5_method_33_code, 2, some .int, ({ frames := 4, cells := 0, slots := 0, locals := 91 } : Room))
def mi_Sta_ownedWords : MI := (⟨"GuardedPool$State", "ownedWords", "()I"⟩, prog_5_method_39_code, 3, some .int, ({ frames := 3, cells := 0, slots := 0, locals := 66 } : Room))
def mi_Sta_askedWords : MI := (⟨"GuardedPool$State", "askedWords", "()I"⟩, prog_5_method_40_code, 3, some .int, ({ frames := 1, cells := 0, slots := 0, locals := 26 } : Room))
def mi_Mod_init : MI := (⟨"GuardedPoolModel", "<init>", "()V"⟩, prog_9_method_1_code, 2, none, ({ frames := 1, cells := 6, slots := 3368, locals := 20 } : Room))
def mi_Mod_ask : MI := (⟨"GuardedPoolModel", "ask", "(II)I"⟩, prog_9_method_31_code, 4, some .int, ({ frames := 4, cells := 0, slots := 0, locals := 89 } : Room))
def mi_Mod_askFault : MI := (⟨"GuardedPoolModel", "askFault", "(II)I"⟩, prog_9_method_24_code, 3, some .int, ({ frames := 3, cells := 0, slots := 0, locals := 67 } : Room))
def mi_Mod_isTask : MI := (⟨"GuardedPoolModel", "isTask", "(I)Z"⟩, prog_9_method_4_code, 1, some .boolean, ({ frames := 1, cells := 0, slots := 0, locals := 22 } : Room))
def mi_Mod_in : MI := (⟨"GuardedPoolModel", "in", "(III)Z"⟩, prog_9_method_3_code, 3, some .boolean, ({ frames := 0, cells := 0, slots := 0, locals := 0 } : Room))
def mi_Mod_why : MI := (⟨"GuardedPoolModel", "why", "(II)I"⟩, prog_9_method_17_code, 4, some .int, ({ frames := 2, cells := 0, slots := 0, locals := 44 } : Room))
def mi_Mod_sizeFor : MI := (⟨"GuardedPoolModel", "sizeFor", "(I)I"⟩, prog_9_method_15_code, 1, some .int, ({ frames := 0, cells := 0, slots := 0, locals := 0 } : Room))
def mi_Mod_wordsOf : MI := (⟨"GuardedPoolModel", "wordsOf", "(I)I"⟩, prog_9_method_16_code, 4, some .int, ({ frames := 1, cells := 0, slots := 0, locals := 21 } : Room))
def mi_Mod_isOwned : MI := (⟨"GuardedPoolModel", "isOwned", "(I)Z"⟩, prog_9_method_9_code, 2, some .boolean, ({ frames := 0, cells := 0, slots := 0, locals := 0 } : Room))
def mi_Mod_lowestFree : MI := (⟨"GuardedPoolModel", "lowestFree", "(I)I"⟩, prog_9_method_14_code, 3, some .int, ({ frames := 1, cells := 0, slots := 0, locals := 21 } : Room))
def mi_Mod_isFree : MI := (⟨"GuardedPoolModel", "isFree", "(I)Z"⟩, prog_9_method_8_code, 2, some .boolean, ({ frames := 0, cells := 0, slots := 0, locals := 0 } : Room))
def mi_Mod_know : MI := (⟨"GuardedPoolModel", "know", "()V"⟩, prog_9_method_5_code, 2, none, ({ frames := 0, cells := 0, slots := 0, locals := 0 } : Room))
def mi_Mod_asks : MI := (⟨"GuardedPoolModel", "asks", "(II)I"⟩, prog_9_method_19_code, 4, some .int, ({ frames := 3, cells := 0, slots := 0, locals := 66 } : Room))
def mi_Mod_taken : MI := (⟨"GuardedPoolModel", "taken", "(I)I"⟩, prog_9_method_18_code, 4, some .int, ({ frames := 2, cells := 0, slots := 0, locals := 43 } : Room))
def mi_Mod_giveBack : MI := (⟨"GuardedPoolModel", "giveBack", "(II)I"⟩, prog_9_method_32_code, 4, some .int, ({ frames := 3, cells := 0, slots := 0, locals := 66 } : Room))
def mi_Mod_backFault : MI := (⟨"GuardedPoolModel", "backFault", "(II)I"⟩, prog_9_method_25_code, 4, some .int, ({ frames := 2, cells := 0, slots := 0, locals := 43 } : Room))
def mi_Mod_beginOf : MI := (⟨"GuardedPoolModel", "beginOf", "(I)I"⟩, prog_9_method_10_code, 3, some .int, ({ frames := 1, cells := 0, slots := 0, locals := 21 } : Room))
def mi_Mod_frees : MI := (⟨"GuardedPoolModel", "frees", "(I)I"⟩, prog_9_method_20_code, 8, some .int, ({ frames := 1, cells := 0, slots := 0, locals := 21 } : Room))
def mi_Mod_broken : MI := (⟨"GuardedPoolModel", "broken", "(I)I"⟩, prog_9_method_13_code, 2, some .int, ({ frames := 0, cells := 0, slots := 0, locals := 0 } : Room))
def mi_Mod_write : MI := (⟨"GuardedPoolModel", "write", "(IIII)I"⟩, prog_9_method_33_code, 8, some .int, ({ frames := 2, cells := 0, slots := 0, locals := 44 } : Room))
def mi_Mod_beginAt : MI := (⟨"GuardedPoolModel", "beginAt", "(I)I"⟩, prog_9_method_11_code, 3, some .int, ({ frames := 0, cells := 0, slots := 0, locals := 0 } : Room))
def mi_Mod_isGuard : MI := (⟨"GuardedPoolModel", "isGuard", "(I)Z"⟩, prog_9_method_12_code, 3, some .boolean, ({ frames := 1, cells := 0, slots := 0, locals := 22 } : Room))
def mi_Mod_touch : MI := (⟨"GuardedPoolModel", "touch", "(I)I"⟩, prog_9_method_34_code, 3, some .int, ({ frames := 2, cells := 0, slots := 0, locals := 43 } : Room))
def mi_Mod_puts : MI := (⟨"GuardedPoolModel", "puts", "(II)I"⟩, prog_9_method_30_code, 4, some .int, ({ frames := 0, cells := 0, slots := 0, locals := 0 } : Room))
def mi_Mod_live : MI := (⟨"GuardedPoolModel", "live", "(IZ)I"⟩, prog_9_method_35_code, 3, some .int, ({ frames := 2, cells := 0, slots := 0, locals := 44 } : Room))
def mi_Mod_blocksOf : MI := (⟨"GuardedPoolModel", "blocksOf", "(I)I"⟩, prog_9_method_29_code, 4, some .int, ({ frames := 1, cells := 0, slots := 0, locals := 21 } : Room))
def mi_Mod_setLimit : MI := (⟨"GuardedPoolModel", "setLimit", "(II)I"⟩, prog_9_method_36_code, 3, some .int, ({ frames := 2, cells := 0, slots := 0, locals := 42 } : Room))
def mi_Mod_setPatience : MI := (⟨"GuardedPoolModel", "setPatience", "(I)I"⟩, prog_9_method_37_code, 2, some .int, ({ frames := 1, cells := 0, slots := 0, locals := 23 } : Room))
def mi_Mod_pass : MI := (⟨"GuardedPoolModel", "pass", "(I)I"⟩, prog_9_method_38_code, 3, some .int, ({ frames := 4, cells := 0, slots := 0, locals := 87 } : Room))
def mi_Mod_passFault : MI := (⟨"GuardedPoolModel", "passFault", "(I)I"⟩, prog_9_method_26_code, 2, some .int, ({ frames := 1, cells := 0, slots := 0, locals := 22 } : Room))
def mi_Mod_passes : MI := (⟨"GuardedPoolModel", "passes", "(I)I"⟩, prog_9_method_27_code, 3, some .int, ({ frames := 3, cells := 0, slots := 0, locals := 65 } : Room))
def mi_Mod_leaks : MI := (⟨"GuardedPoolModel", "leaks", "(I)I"⟩, prog_9_method_22_code, 4, some .int, ({ frames := 2, cells := 0, slots := 0, locals := 42 } : Room))
def mi_Mod_isLeak : MI := (⟨"GuardedPoolModel", "isLeak", "(I)Z"⟩, prog_9_method_21_code, 2, some .boolean, ({ frames := 1, cells := 0, slots := 0, locals := 21 } : Room))
def mi_Mod_sweep : MI := (⟨"GuardedPoolModel", "sweep", "()I"⟩, prog_9_method_39_code, 1, some .int, ({ frames := 3, cells := 0, slots := 0, locals := 71 } : Room))
def mi_Mod_sweeps : MI := (⟨"GuardedPoolModel", "sweeps", "()I"⟩, prog_9_method_28_code, 4, some .int, ({ frames := 2, cells := 0, slots := 0, locals := 48 } : Room))
def mi_Mod_type : MI := (⟨"GuardedPoolModel", "type", "(C)I"⟩, prog_9_method_40_code, 2, some .int, ({ frames := 0, cells := 0, slots := 0, locals := 0 } : Room))
def mi_Mod_clearText : MI := (⟨"GuardedPoolModel", "clearText", "()I"⟩, prog_9_method_41_code, 2, some .int, ({ frames := 0, cells := 0, slots := 0, locals := 0 } : Room))
def mi_Mod_perform : MI := (⟨"GuardedPoolModel", "perform", "()I"⟩, prog_9_method_47_code, 2, some .int, ({ frames := 6, cells := 0, slots := 0, locals := 136 } : Room))
def mi_Mod_go : MI := (⟨"GuardedPoolModel", "go", "(Z)I"⟩, prog_9_method_46_code, 5, some .int, ({ frames := 5, cells := 0, slots := 0, locals := 112 } : Room))
def mi_Mod_read : MI := (⟨"GuardedPoolModel", "read", "()V"⟩, prog_9_method_44_code, 4, none, ({ frames := 3, cells := 0, slots := 0, locals := 68 } : Room))
def mi_Mod_number : MI := (⟨"GuardedPoolModel", "number", "(II)I"⟩, prog_9_method_43_code, 4, some .int, ({ frames := 2, cells := 0, slots := 0, locals := 45 } : Room))
def mi_Mod_sign : MI := (⟨"GuardedPoolModel", "sign", "(II)I"⟩, prog_9_method_42_code, 4, some .int, ({ frames := 1, cells := 0, slots := 0, locals := 22 } : Room))
def mi_Mod_does : MI := (⟨"GuardedPoolModel", "does", "()I"⟩, prog_9_method_45_code, 4, some .int, ({ frames := 4, cells := 0, slots := 0, locals := 89 } : Room))
def mi_Mod_putAside : MI := (⟨"GuardedPoolModel", "putAside", "()V"⟩, prog_9_method_6_code, 2, none, ({ frames := 0, cells := 0, slots := 0, locals := 0 } : Room))
def mi_Mod_putBack : MI := (⟨"GuardedPoolModel", "putBack", "()V"⟩, prog_9_method_7_code, 2, none, ({ frames := 0, cells := 0, slots := 0, locals := 0 } : Room))
def mi_Mod_stopped : MI := (⟨"GuardedPoolModel", "stopped", "(I)I"⟩, prog_9_method_48_code, 2, some .int, ({ frames := 1, cells := 0, slots := 0, locals := 22 } : Room))
def mi_Mod_undo : MI := (⟨"GuardedPoolModel", "undo", "()I"⟩, prog_9_method_49_code, 2, some .int, ({ frames := 0, cells := 0, slots := 0, locals := 0 } : Room))
def mi_Mod_keep : MI := (⟨"GuardedPoolModel", "keep", "()I"⟩, prog_9_method_50_code, 2, some .int, ({ frames := 2, cells := 0, slots := 0, locals := 43 } : Room))
def mi_Mod_owned : MI := (⟨"GuardedPoolModel", "owned", "()I"⟩, prog_9_method_23_code, 3, some .int, ({ frames := 1, cells := 0, slots := 0, locals := 21 } : Room))
def mi_Mod_restore : MI := (⟨"GuardedPoolModel", "restore", "()I"⟩, prog_9_method_51_code, 2, some .int, ({ frames := 2, cells := 0, slots := 0, locals := 43 } : Room))
def mi_Mod_block : MI := (⟨"GuardedPoolModel", "block", "(II)I"⟩, prog_9_method_53_code, 4, some .int, ({ frames := 2, cells := 0, slots := 0, locals := 43 } : Room))
def mi_Mod_sizeNumber : MI := (⟨"GuardedPoolModel", "sizeNumber", "(I)I"⟩, prog_9_method_52_code, 1, some .int, ({ frames := 0, cells := 0, slots := 0, locals := 0 } : Room))
def mi_Mod_word : MI := (⟨"GuardedPoolModel", "word", "(II)I"⟩, prog_9_method_54_code, 4, some .int, ({ frames := 2, cells := 0, slots := 0, locals := 44 } : Room))
def mi_Mod_task : MI := (⟨"GuardedPoolModel", "task", "(II)I"⟩, prog_9_method_56_code, 3, some .int, ({ frames := 3, cells := 0, slots := 0, locals := 65 } : Room))
def mi_Mod_asked : MI := (⟨"GuardedPoolModel", "asked", "(I)I"⟩, prog_9_method_55_code, 4, some .int, ({ frames := 1, cells := 0, slots := 0, locals := 21 } : Room))
def mi_Mod_reason : MI := (⟨"GuardedPoolModel", "reason", "(II)I"⟩, prog_9_method_57_code, 3, some .int, ({ frames := 3, cells := 0, slots := 0, locals := 67 } : Room))
def mi_Mod_greatest : MI := (⟨"GuardedPoolModel", "greatest", "(I)I"⟩, prog_9_method_58_code, 3, some .int, ({ frames := 3, cells := 0, slots := 0, locals := 67 } : Room))
def mi_Mod_leak : MI := (⟨"GuardedPoolModel", "leak", "(I)I"⟩, prog_9_method_60_code, 3, some .int, ({ frames := 3, cells := 0, slots := 0, locals := 66 } : Room))
def mi_Mod_ahead : MI := (⟨"GuardedPoolModel", "ahead", "(I)I"⟩, prog_9_method_59_code, 5, some .int, ({ frames := 2, cells := 0, slots := 0, locals := 42 } : Room))
def mi_Mod_refused : MI := (⟨"GuardedPoolModel", "refused", "(I)I"⟩, prog_9_method_61_code, 2, some .int, ({ frames := 1, cells := 0, slots := 0, locals := 22 } : Room))
def mi_Mod_size : MI := (⟨"GuardedPoolModel", "size", "(II)I"⟩, prog_9_method_62_code, 5, some .int, ({ frames := 2, cells := 0, slots := 0, locals := 43 } : Room))
def mi_Mod_count : MI := (⟨"GuardedPoolModel", "count", "(I)I"⟩, prog_9_method_64_code, 2, some .int, ({ frames := 3, cells := 0, slots := 0, locals := 65 } : Room))
def mi_Mod_freeWords : MI := (⟨"GuardedPoolModel", "freeWords", "()I"⟩, prog_9_method_63_code, 3, some .int, ({ frames := 1, cells := 0, slots := 0, locals := 21 } : Room))
def mi_Law_law : MI := (x, code, maxLocals, ret, room_1)
/-- what a method needs to be called: its code, its class begun, its parameters -/
def mOK (y : MI) (n : Nat) : Prop := Cond.code (mnm y) (mbc y) (mml y) (mrt y) ∈ lw_g ∧ plainName (mnm y).cls = true ∧ (mnm y).cls ≠ "java/lang/invoke/MethodHandle" ∧ (mnm y).cls ≠ "java/lang/invoke/VarHandle" ∧ Cond.initialized (mnm y).cls ∈ lw_g ∧ (parseMethodDescriptor (mnm y).desc).map (fun d => d.parameters.length) = some n
def mVirt (y : MI) : Prop := Cond.instanceMethod (mnm y) ∈ lw_g ∧ Cond.selects (mnm y).cls (mnm y) (mnm y) ∈ lw_g
theorem ok_Poo_init : mOK mi_Poo_init 0 := ⟨in_tbl 15 (by decide +kernel), by decide +kernel, by decide +kernel, by decide +kernel, ini_Poo, by decide +kernel⟩
theorem in_Poo_init : Cond.instanceMethod (mnm mi_Poo_init) ∈ lw_g := in_tbl 14 (by decide +kernel)
theorem ok_Sta_init : mOK mi_Sta_init 0 := ⟨in_tbl 23 (by decide +kernel), by decide +kernel, by decide +kernel, by decide +kernel, ini_Sta, by decide +kernel⟩
theorem in_Sta_init : Cond.instanceMethod (mnm mi_Sta_init) ∈ lw_g := in_tbl 22 (by decide +kernel)
theorem ok_Blk_init : mOK mi_Blk_init 2 := ⟨in_tbl 30 (by decide +kernel), by decide +kernel, by decide +kernel, by decide +kernel, ini_Blk, by decide +kernel⟩
theorem in_Blk_init : Cond.instanceMethod (mnm mi_Blk_init) ∈ lw_g := in_tbl 29 (by decide +kernel)
theorem ok_Tsk_init : mOK mi_Tsk_init 0 := ⟨in_tbl 62 (by decide +kernel), by decide +kernel, by decide +kernel, by decide +kernel, ini_Tsk, by decide +kernel⟩
theorem in_Tsk_init : Cond.instanceMethod (mnm mi_Tsk_init) ∈ lw_g := in_tbl 61 (by decide +kernel)
theorem ok_His_init : mOK mi_His_init 0 := ⟨in_tbl 110 (by decide +kernel), by decide +kernel, by decide +kernel, by decide +kernel, ini_His, by decide +kernel⟩
theorem in_His_init : Cond.instanceMethod (mnm mi_His_init) ∈ lw_g := in_tbl 109 (by decide +kernel)
theorem ok_Txt_init : mOK mi_Txt_init 0 := ⟨in_tbl 129 (by decide +kernel), by decide +kernel, by decide +kernel, by decide +kernel, ini_Txt, by decide +kernel⟩
theorem in_Txt_init : Cond.instanceMethod (mnm mi_Txt_init) ∈ lw_g := in_tbl 128 (by decide +kernel)
theorem ok_Cmd_init : mOK mi_Cmd_init 0 := ⟨in_tbl 136 (by decide +kernel), by decide +kernel, by decide +kernel, by decide +kernel, ini_Cmd, by decide +kernel⟩
theorem in_Cmd_init : Cond.instanceMethod (mnm mi_Cmd_init) ∈ lw_g := in_tbl 135 (by decide +kernel)
theorem ok_Poo_ask : mOK mi_Poo_ask 2 := ⟨in_tbl 205 (by decide +kernel), by decide +kernel, by decide +kernel, by decide +kernel, ini_Poo, by decide +kernel⟩
theorem vi_Poo_ask : mVirt mi_Poo_ask := ⟨in_tbl 203 (by decide +kernel), in_tbl 204 (by decide +kernel)⟩
theorem ok_Sta_copyFrom : mOK mi_Sta_copyFrom 1 := ⟨in_tbl 209 (by decide +kernel), by decide +kernel, by decide +kernel, by decide +kernel, ini_Sta, by decide +kernel⟩
theorem vi_Sta_copyFrom : mVirt mi_Sta_copyFrom := ⟨in_tbl 207 (by decide +kernel), in_tbl 208 (by decide +kernel)⟩
theorem ok_Blk_copyFrom : mOK mi_Blk_copyFrom 1 := ⟨in_tbl 213 (by decide +kernel), by decide +kernel, by decide +kernel, by decide +kernel, ini_Blk, by decide +kernel⟩
theorem vi_Blk_copyFrom : mVirt mi_Blk_copyFrom := ⟨in_tbl 211 (by decide +kernel), in_tbl 212 (by decide +kernel)⟩
theorem ok_Tsk_copyFrom : mOK mi_Tsk_copyFrom 1 := ⟨in_tbl 220 (by decide +kernel), by decide +kernel, by decide +kernel, by decide +kernel, ini_Tsk, by decide +kernel⟩
theorem vi_Tsk_copyFrom : mVirt mi_Tsk_copyFrom := ⟨in_tbl 218 (by decide +kernel), in_tbl 219 (by decide +kernel)⟩
theorem ok_Sta_grant : mOK mi_Sta_grant 2 := ⟨in_tbl 224 (by decide +kernel), by decide +kernel, by decide +kernel, by decide +kernel, ini_Sta, by decide +kernel⟩
theorem vi_Sta_grant : mVirt mi_Sta_grant := ⟨in_tbl 222 (by decide +kernel), in_tbl 223 (by decide +kernel)⟩
theorem ok_Sta_whyNot : mOK mi_Sta_whyNot 2 := ⟨in_tbl 228 (by decide +kernel), by decide +kernel, by decide +kernel, by decide +kernel, ini_Sta, by decide +kernel⟩
theorem vi_Sta_whyNot : mVirt mi_Sta_whyNot := ⟨in_tbl 226 (by decide +kernel), in_tbl 227 (by decide +kernel)⟩
theorem ok_Sta_taskOf : mOK mi_Sta_taskOf 1 := ⟨in_tbl 232 (by decide +kernel), by decide +kernel, by decide +kernel, by decide +kernel, ini_Sta, by decide +kernel⟩
theorem vi_Sta_taskOf : mVirt mi_Sta_taskOf := ⟨in_tbl 231 (by decide +kernel), in_sel 0 (by decide +kernel)⟩
theorem ok_Sta_sizeFor : mOK mi_Sta_sizeFor 1 := ⟨in_tbl 235 (by decide +kernel), by decide +kernel, by decide +kernel, by decide +kernel, ini_Sta, by decide +kernel⟩
theorem st_Sta_sizeFor : Cond.static (mnm mi_Sta_sizeFor) ∈ lw_g := in_tbl 234 (by decide +kernel)
theorem ok_Blk_wordsOf : mOK mi_Blk_wordsOf 1 := ⟨in_tbl 238 (by decide +kernel), by decide +kernel, by decide +kernel, by decide +kernel, ini_Blk, by decide +kernel⟩
theorem st_Blk_wordsOf : Cond.static (mnm mi_Blk_wordsOf) ∈ lw_g := in_tbl 237 (by decide +kernel)
theorem ok_Sta_wordsOf : mOK mi_Sta_wordsOf 1 := ⟨in_tbl 242 (by decide +kernel), by decide +kernel, by decide +kernel, by decide +kernel, ini_Sta, by decide +kernel⟩
theorem vi_Sta_wordsOf : mVirt mi_Sta_wordsOf := ⟨in_tbl 241 (by decide +kernel), in_sel 1 (by decide +kernel)⟩
theorem ok_Blk_words : mOK mi_Blk_words 0 := ⟨in_tbl 246 (by decide +kernel), by decide +kernel, by decide +kernel, by decide +kernel, ini_Blk, by decide +kernel⟩
theorem vi_Blk_words : mVirt mi_Blk_words := ⟨in_tbl 244 (by decide +kernel), in_tbl 245 (by decide +kernel)⟩
theorem ok_Sta_roomFor : mOK mi_Sta_roomFor 1 := ⟨in_tbl 251 (by decide +kernel), by decide +kernel, by decide +kernel, by decide +kernel, ini_Sta, by decide +kernel⟩
theorem vi_Sta_roomFor : mVirt mi_Sta_roomFor := ⟨in_tbl 250 (by decide +kernel), in_sel 2 (by decide +kernel)⟩
theorem ok_Sta_lowestFree : mOK mi_Sta_lowestFree 1 := ⟨in_tbl 255 (by decide +kernel), by decide +kernel, by decide +kernel, by decide +kernel, ini_Sta, by decide +kernel⟩
theorem vi_Sta_lowestFree : mVirt mi_Sta_lowestFree := ⟨in_tbl 254 (by decide +kernel), in_sel 3 (by decide +kernel)⟩
theorem ok_Blk_isFreeOf : mOK mi_Blk_isFreeOf 1 := ⟨in_tbl 259 (by decide +kernel), by decide +kernel, by decide +kernel, by decide +kernel, ini_Blk, by decide +kernel⟩
theorem vi_Blk_isFreeOf : mVirt mi_Blk_isFreeOf := ⟨in_tbl 257 (by decide +kernel), in_tbl 258 (by decide +kernel)⟩
theorem ok_Sta_cutOut : mOK mi_Sta_cutOut 1 := ⟨in_tbl 263 (by decide +kernel), by decide +kernel, by decide +kernel, by decide +kernel, ini_Sta, by decide +kernel⟩
theorem vi_Sta_cutOut : mVirt mi_Sta_cutOut := ⟨in_tbl 262 (by decide +kernel), in_sel 4 (by decide +kernel)⟩
theorem ok_Sta_halve : mOK mi_Sta_halve 1 := ⟨in_tbl 267 (by decide +kernel), by decide +kernel, by decide +kernel, by decide +kernel, ini_Sta, by decide +kernel⟩
theorem vi_Sta_halve : mVirt mi_Sta_halve := ⟨in_tbl 266 (by decide +kernel), in_sel 5 (by decide +kernel)⟩
theorem ok_Sta_placeAt : mOK mi_Sta_placeAt 1 := ⟨in_tbl 271 (by decide +kernel), by decide +kernel, by decide +kernel, by decide +kernel, ini_Sta, by decide +kernel⟩
theorem vi_Sta_placeAt : mVirt mi_Sta_placeAt := ⟨in_tbl 270 (by decide +kernel), in_sel 6 (by decide +kernel)⟩
theorem ok_Poo_countRefusal : mOK mi_Poo_countRefusal 1 := ⟨in_tbl 276 (by decide +kernel), by decide +kernel, by decide +kernel, by decide +kernel, ini_Poo, by decide +kernel⟩
theorem vi_Poo_countRefusal : mVirt mi_Poo_countRefusal := ⟨in_tbl 275 (by decide +kernel), in_sel 7 (by decide +kernel)⟩
theorem ok_Poo_recorded : mOK mi_Poo_recorded 1 := ⟨in_tbl 280 (by decide +kernel), by decide +kernel, by decide +kernel, by decide +kernel, ini_Poo, by decide +kernel⟩
theorem vi_Poo_recorded : mVirt mi_Poo_recorded := ⟨in_tbl 279 (by decide +kernel), in_sel 8 (by decide +kernel)⟩
theorem ok_His_record : mOK mi_His_record 1 := ⟨in_tbl 284 (by decide +kernel), by decide +kernel, by decide +kernel, by decide +kernel, ini_His, by decide +kernel⟩
theorem vi_His_record : mVirt mi_His_record := ⟨in_tbl 282 (by decide +kernel), in_tbl 283 (by decide +kernel)⟩
theorem ok_Poo_giveBack : mOK mi_Poo_giveBack 2 := ⟨in_tbl 292 (by decide +kernel), by decide +kernel, by decide +kernel, by decide +kernel, ini_Poo, by decide +kernel⟩
theorem vi_Poo_giveBack : mVirt mi_Poo_giveBack := ⟨in_tbl 290 (by decide +kernel), in_tbl 291 (by decide +kernel)⟩
theorem ok_Sta_takeBack : mOK mi_Sta_takeBack 2 := ⟨in_tbl 296 (by decide +kernel), by decide +kernel, by decide +kernel, by decide +kernel, ini_Sta, by decide +kernel⟩
theorem vi_Sta_takeBack : mVirt mi_Sta_takeBack := ⟨in_tbl 294 (by decide +kernel), in_tbl 295 (by decide +kernel)⟩
theorem ok_Sta_blockOf : mOK mi_Sta_blockOf 1 := ⟨in_tbl 300 (by decide +kernel), by decide +kernel, by decide +kernel, by decide +kernel, ini_Sta, by decide +kernel⟩
theorem vi_Sta_blockOf : mVirt mi_Sta_blockOf := ⟨in_tbl 299 (by decide +kernel), in_sel 9 (by decide +kernel)⟩
theorem ok_Blk_isOwned : mOK mi_Blk_isOwned 0 := ⟨in_tbl 304 (by decide +kernel), by decide +kernel, by decide +kernel, by decide +kernel, ini_Blk, by decide +kernel⟩
theorem vi_Blk_isOwned : mVirt mi_Blk_isOwned := ⟨in_tbl 302 (by decide +kernel), in_tbl 303 (by decide +kernel)⟩
theorem ok_Sta_free : mOK mi_Sta_free 1 := ⟨in_tbl 308 (by decide +kernel), by decide +kernel, by decide +kernel, by decide +kernel, ini_Sta, by decide +kernel⟩
theorem vi_Sta_free : mVirt mi_Sta_free := ⟨in_tbl 307 (by decide +kernel), in_sel 10 (by decide +kernel)⟩
theorem ok_Sta_brokenGuards : mOK mi_Sta_brokenGuards 1 := ⟨in_tbl 312 (by decide +kernel), by decide +kernel, by decide +kernel, by decide +kernel, ini_Sta, by decide +kernel⟩
theorem vi_Sta_brokenGuards : mVirt mi_Sta_brokenGuards := ⟨in_tbl 311 (by decide +kernel), in_sel 11 (by decide +kernel)⟩
theorem ok_Sta_valueAt : mOK mi_Sta_valueAt 1 := ⟨in_tbl 316 (by decide +kernel), by decide +kernel, by decide +kernel, by decide +kernel, ini_Sta, by decide +kernel⟩
theorem vi_Sta_valueAt : mVirt mi_Sta_valueAt := ⟨in_tbl 315 (by decide +kernel), in_sel 12 (by decide +kernel)⟩
theorem ok_Blk_rearGuard : mOK mi_Blk_rearGuard 0 := ⟨in_tbl 320 (by decide +kernel), by decide +kernel, by decide +kernel, by decide +kernel, ini_Blk, by decide +kernel⟩
theorem vi_Blk_rearGuard : mVirt mi_Blk_rearGuard := ⟨in_tbl 318 (by decide +kernel), in_tbl 319 (by decide +kernel)⟩
theorem ok_Sta_setValue : mOK mi_Sta_setValue 2 := ⟨in_tbl 324 (by decide +kernel), by decide +kernel, by decide +kernel, by decide +kernel, ini_Sta, by decide +kernel⟩
theorem vi_Sta_setValue : mVirt mi_Sta_setValue := ⟨in_tbl 323 (by decide +kernel), in_sel 13 (by decide +kernel)⟩
theorem ok_Sta_joinTwins : mOK mi_Sta_joinTwins 1 := ⟨in_tbl 328 (by decide +kernel), by decide +kernel, by decide +kernel, by decide +kernel, ini_Sta, by decide +kernel⟩
theorem vi_Sta_joinTwins : mVirt mi_Sta_joinTwins := ⟨in_tbl 327 (by decide +kernel), in_sel 14 (by decide +kernel)⟩
theorem ok_Poo_write : mOK mi_Poo_write 4 := ⟨in_tbl 332 (by decide +kernel), by decide +kernel, by decide +kernel, by decide +kernel, ini_Poo, by decide +kernel⟩
theorem vi_Poo_write : mVirt mi_Poo_write := ⟨in_tbl 330 (by decide +kernel), in_tbl 331 (by decide +kernel)⟩
theorem ok_Sta_put : mOK mi_Sta_put 4 := ⟨in_tbl 336 (by decide +kernel), by decide +kernel, by decide +kernel, by decide +kernel, ini_Sta, by decide +kernel⟩
theorem vi_Sta_put : mVirt mi_Sta_put := ⟨in_tbl 334 (by decide +kernel), in_tbl 335 (by decide +kernel)⟩
theorem ok_Sta_blockAt : mOK mi_Sta_blockAt 1 := ⟨in_tbl 340 (by decide +kernel), by decide +kernel, by decide +kernel, by decide +kernel, ini_Sta, by decide +kernel⟩
theorem vi_Sta_blockAt : mVirt mi_Sta_blockAt := ⟨in_tbl 339 (by decide +kernel), in_sel 15 (by decide +kernel)⟩
theorem ok_Blk_holds : mOK mi_Blk_holds 1 := ⟨in_tbl 344 (by decide +kernel), by decide +kernel, by decide +kernel, by decide +kernel, ini_Blk, by decide +kernel⟩
theorem vi_Blk_holds : mVirt mi_Blk_holds := ⟨in_tbl 342 (by decide +kernel), in_tbl 343 (by decide +kernel)⟩
theorem ok_Sta_kindOfHit : mOK mi_Sta_kindOfHit 3 := ⟨in_tbl 348 (by decide +kernel), by decide +kernel, by decide +kernel, by decide +kernel, ini_Sta, by decide +kernel⟩
theorem st_Sta_kindOfHit : Cond.static (mnm mi_Sta_kindOfHit) ∈ lw_g := in_tbl 347 (by decide +kernel)
theorem ok_Blk_hasGuardAt : mOK mi_Blk_hasGuardAt 1 := ⟨in_tbl 352 (by decide +kernel), by decide +kernel, by decide +kernel, by decide +kernel, ini_Blk, by decide +kernel⟩
theorem vi_Blk_hasGuardAt : mVirt mi_Blk_hasGuardAt := ⟨in_tbl 350 (by decide +kernel), in_tbl 351 (by decide +kernel)⟩
theorem ok_Blk_wasAskedFor : mOK mi_Blk_wasAskedFor 1 := ⟨in_tbl 358 (by decide +kernel), by decide +kernel, by decide +kernel, by decide +kernel, ini_Blk, by decide +kernel⟩
theorem vi_Blk_wasAskedFor : mVirt mi_Blk_wasAskedFor := ⟨in_tbl 356 (by decide +kernel), in_tbl 357 (by decide +kernel)⟩
theorem ok_Poo_touch : mOK mi_Poo_touch 1 := ⟨in_tbl 362 (by decide +kernel), by decide +kernel, by decide +kernel, by decide +kernel, ini_Poo, by decide +kernel⟩
theorem vi_Poo_touch : mVirt mi_Poo_touch := ⟨in_tbl 360 (by decide +kernel), in_tbl 361 (by decide +kernel)⟩
theorem ok_Sta_useNow : mOK mi_Sta_useNow 1 := ⟨in_tbl 366 (by decide +kernel), by decide +kernel, by decide +kernel, by decide +kernel, ini_Sta, by decide +kernel⟩
theorem vi_Sta_useNow : mVirt mi_Sta_useNow := ⟨in_tbl 364 (by decide +kernel), in_tbl 365 (by decide +kernel)⟩
theorem ok_Sta_ageOf : mOK mi_Sta_ageOf 1 := ⟨in_tbl 370 (by decide +kernel), by decide +kernel, by decide +kernel, by decide +kernel, ini_Sta, by decide +kernel⟩
theorem vi_Sta_ageOf : mVirt mi_Sta_ageOf := ⟨in_tbl 369 (by decide +kernel), in_sel 16 (by decide +kernel)⟩
theorem ok_Poo_live : mOK mi_Poo_live 2 := ⟨in_tbl 374 (by decide +kernel), by decide +kernel, by decide +kernel, by decide +kernel, ini_Poo, by decide +kernel⟩
theorem vi_Poo_live : mVirt mi_Poo_live := ⟨in_tbl 372 (by decide +kernel), in_tbl 373 (by decide +kernel)⟩
theorem ok_Sta_makeAlive : mOK mi_Sta_makeAlive 2 := ⟨in_tbl 378 (by decide +kernel), by decide +kernel, by decide +kernel, by decide +kernel, ini_Sta, by decide +kernel⟩
theorem vi_Sta_makeAlive : mVirt mi_Sta_makeAlive := ⟨in_tbl 376 (by decide +kernel), in_tbl 377 (by decide +kernel)⟩
theorem ok_Sta_blocksOf : mOK mi_Sta_blocksOf 1 := ⟨in_tbl 382 (by decide +kernel), by decide +kernel, by decide +kernel, by decide +kernel, ini_Sta, by decide +kernel⟩
theorem vi_Sta_blocksOf : mVirt mi_Sta_blocksOf := ⟨in_tbl 381 (by decide +kernel), in_sel 17 (by decide +kernel)⟩
theorem ok_Poo_setLimit : mOK mi_Poo_setLimit 2 := ⟨in_tbl 386 (by decide +kernel), by decide +kernel, by decide +kernel, by decide +kernel, ini_Poo, by decide +kernel⟩
theorem vi_Poo_setLimit : mVirt mi_Poo_setLimit := ⟨in_tbl 384 (by decide +kernel), in_tbl 385 (by decide +kernel)⟩
theorem ok_Sta_changeLimit : mOK mi_Sta_changeLimit 2 := ⟨in_tbl 390 (by decide +kernel), by decide +kernel, by decide +kernel, by decide +kernel, ini_Sta, by decide +kernel⟩
theorem vi_Sta_changeLimit : mVirt mi_Sta_changeLimit := ⟨in_tbl 388 (by decide +kernel), in_tbl 389 (by decide +kernel)⟩
theorem ok_Poo_setPatience : mOK mi_Poo_setPatience 1 := ⟨in_tbl 394 (by decide +kernel), by decide +kernel, by decide +kernel, by decide +kernel, ini_Poo, by decide +kernel⟩
theorem vi_Poo_setPatience : mVirt mi_Poo_setPatience := ⟨in_tbl 392 (by decide +kernel), in_tbl 393 (by decide +kernel)⟩
theorem ok_Sta_changePatience : mOK mi_Sta_changePatience 1 := ⟨in_tbl 398 (by decide +kernel), by decide +kernel, by decide +kernel, by decide +kernel, ini_Sta, by decide +kernel⟩
theorem vi_Sta_changePatience : mVirt mi_Sta_changePatience := ⟨in_tbl 396 (by decide +kernel), in_tbl 397 (by decide +kernel)⟩
theorem ok_Poo_pass : mOK mi_Poo_pass 1 := ⟨in_tbl 402 (by decide +kernel), by decide +kernel, by decide +kernel, by decide +kernel, ini_Poo, by decide +kernel⟩
theorem vi_Poo_pass : mVirt mi_Poo_pass := ⟨in_tbl 400 (by decide +kernel), in_tbl 401 (by decide +kernel)⟩
theorem ok_Sta_advance : mOK mi_Sta_advance 1 := ⟨in_tbl 406 (by decide +kernel), by decide +kernel, by decide +kernel, by decide +kernel, ini_Sta, by decide +kernel⟩
theorem vi_Sta_advance : mVirt mi_Sta_advance := ⟨in_tbl 404 (by decide +kernel), in_tbl 405 (by decide +kernel)⟩
theorem ok_Sta_leaks : mOK mi_Sta_leaks 0 := ⟨in_tbl 410 (by decide +kernel), by decide +kernel, by decide +kernel, by decide +kernel, ini_Sta, by decide +kernel⟩
theorem vi_Sta_leaks : mVirt mi_Sta_leaks := ⟨in_tbl 409 (by decide +kernel), in_sel 18 (by decide +kernel)⟩
theorem ok_Sta_leaksOf : mOK mi_Sta_leaksOf 1 := ⟨in_tbl 414 (by decide +kernel), by decide +kernel, by decide +kernel, by decide +kernel, ini_Sta, by decide +kernel⟩
theorem vi_Sta_leaksOf : mVirt mi_Sta_leaksOf := ⟨in_tbl 413 (by decide +kernel), in_sel 19 (by decide +kernel)⟩
theorem ok_Sta_isLeak : mOK mi_Sta_isLeak 1 := ⟨in_tbl 418 (by decide +kernel), by decide +kernel, by decide +kernel, by decide +kernel, ini_Sta, by decide +kernel⟩
theorem vi_Sta_isLeak : mVirt mi_Sta_isLeak := ⟨in_tbl 417 (by decide +kernel), in_sel 20 (by decide +kernel)⟩
theorem ok_Poo_sweep : mOK mi_Poo_sweep 0 := ⟨in_tbl 422 (by decide +kernel), by decide +kernel, by decide +kernel, by decide +kernel, ini_Poo, by decide +kernel⟩
theorem vi_Poo_sweep : mVirt mi_Poo_sweep := ⟨in_tbl 420 (by decide +kernel), in_tbl 421 (by decide +kernel)⟩
theorem ok_Sta_takeLeaksBack : mOK mi_Sta_takeLeaksBack 0 := ⟨in_tbl 426 (by decide +kernel), by decide +kernel, by decide +kernel, by decide +kernel, ini_Sta, by decide +kernel⟩
theorem vi_Sta_takeLeaksBack : mVirt mi_Sta_takeLeaksBack := ⟨in_tbl 424 (by decide +kernel), in_tbl 425 (by decide +kernel)⟩
theorem ok_Poo_type : mOK mi_Poo_type 1 := ⟨in_tbl 430 (by decide +kernel), by decide +kernel, by decide +kernel, by decide +kernel, ini_Poo, by decide +kernel⟩
theorem vi_Poo_type : mVirt mi_Poo_type := ⟨in_tbl 428 (by decide +kernel), in_tbl 429 (by decide +kernel)⟩
theorem ok_Txt_append : mOK mi_Txt_append 1 := ⟨in_tbl 434 (by decide +kernel), by decide +kernel, by decide +kernel, by decide +kernel, ini_Txt, by decide +kernel⟩
theorem vi_Txt_append : mVirt mi_Txt_append := ⟨in_tbl 432 (by decide +kernel), in_tbl 433 (by decide +kernel)⟩
theorem ok_Poo_clearText : mOK mi_Poo_clearText 0 := ⟨in_tbl 438 (by decide +kernel), by decide +kernel, by decide +kernel, by decide +kernel, ini_Poo, by decide +kernel⟩
theorem vi_Poo_clearText : mVirt mi_Poo_clearText := ⟨in_tbl 436 (by decide +kernel), in_tbl 437 (by decide +kernel)⟩
theorem ok_Txt_drop : mOK mi_Txt_drop 0 := ⟨in_tbl 442 (by decide +kernel), by decide +kernel, by decide +kernel, by decide +kernel, ini_Txt, by decide +kernel⟩
theorem vi_Txt_drop : mVirt mi_Txt_drop := ⟨in_tbl 440 (by decide +kernel), in_tbl 441 (by decide +kernel)⟩
theorem ok_Poo_perform : mOK mi_Poo_perform 0 := ⟨in_tbl 446 (by decide +kernel), by decide +kernel, by decide +kernel, by decide +kernel, ini_Poo, by decide +kernel⟩
theorem vi_Poo_perform : mVirt mi_Poo_perform := ⟨in_tbl 444 (by decide +kernel), in_tbl 445 (by decide +kernel)⟩
theorem ok_Txt_read : mOK mi_Txt_read 0 := ⟨in_tbl 450 (by decide +kernel), by decide +kernel, by decide +kernel, by decide +kernel, ini_Txt, by decide +kernel⟩
theorem vi_Txt_read : mVirt mi_Txt_read := ⟨in_tbl 448 (by decide +kernel), in_tbl 449 (by decide +kernel)⟩
theorem ok_Txt_readCommand : mOK mi_Txt_readCommand 1 := ⟨in_tbl 454 (by decide +kernel), by decide +kernel, by decide +kernel, by decide +kernel, ini_Txt, by decide +kernel⟩
theorem vi_Txt_readCommand : mVirt mi_Txt_readCommand := ⟨in_tbl 453 (by decide +kernel), in_sel 21 (by decide +kernel)⟩
theorem ok_Txt_signHere : mOK mi_Txt_signHere 0 := ⟨in_tbl 458 (by decide +kernel), by decide +kernel, by decide +kernel, by decide +kernel, ini_Txt, by decide +kernel⟩
theorem vi_Txt_signHere : mVirt mi_Txt_signHere := ⟨in_tbl 457 (by decide +kernel), in_sel 22 (by decide +kernel)⟩
theorem ok_Txt_readTwoNumbers : mOK mi_Txt_readTwoNumbers 3 := ⟨in_tbl 462 (by decide +kernel), by decide +kernel, by decide +kernel, by decide +kernel, ini_Txt, by decide +kernel⟩
theorem vi_Txt_readTwoNumbers : mVirt mi_Txt_readTwoNumbers := ⟨in_tbl 461 (by decide +kernel), in_sel 23 (by decide +kernel)⟩
theorem ok_Txt_readNumber : mOK mi_Txt_readNumber 2 := ⟨in_tbl 466 (by decide +kernel), by decide +kernel, by decide +kernel, by decide +kernel, ini_Txt, by decide +kernel⟩
theorem vi_Txt_readNumber : mVirt mi_Txt_readNumber := ⟨in_tbl 465 (by decide +kernel), in_sel 24 (by decide +kernel)⟩
theorem ok_Txt_digitHere : mOK mi_Txt_digitHere 0 := ⟨in_tbl 470 (by decide +kernel), by decide +kernel, by decide +kernel, by decide +kernel, ini_Txt, by decide +kernel⟩
theorem vi_Txt_digitHere : mVirt mi_Txt_digitHere := ⟨in_tbl 469 (by decide +kernel), in_sel 25 (by decide +kernel)⟩
theorem ok_Txt_readSign : mOK mi_Txt_readSign 1 := ⟨in_tbl 474 (by decide +kernel), by decide +kernel, by decide +kernel, by decide +kernel, ini_Txt, by decide +kernel⟩
theorem vi_Txt_readSign : mVirt mi_Txt_readSign := ⟨in_tbl 473 (by decide +kernel), in_sel 26 (by decide +kernel)⟩
theorem ok_Txt_commandCount : mOK mi_Txt_commandCount 0 := ⟨in_tbl 478 (by decide +kernel), by decide +kernel, by decide +kernel, by decide +kernel, ini_Txt, by decide +kernel⟩
theorem vi_Txt_commandCount : mVirt mi_Txt_commandCount := ⟨in_tbl 476 (by decide +kernel), in_tbl 477 (by decide +kernel)⟩
theorem ok_Txt_commandAt : mOK mi_Txt_commandAt 1 := ⟨in_tbl 482 (by decide +kernel), by decide +kernel, by decide +kernel, by decide +kernel, ini_Txt, by decide +kernel⟩
theorem vi_Txt_commandAt : mVirt mi_Txt_commandAt := ⟨in_tbl 480 (by decide +kernel), in_tbl 481 (by decide +kernel)⟩
theorem ok_Poo_answerTo : mOK mi_Poo_answerTo 1 := ⟨in_tbl 486 (by decide +kernel), by decide +kernel, by decide +kernel, by decide +kernel, ini_Poo, by decide +kernel⟩
theorem vi_Poo_answerTo : mVirt mi_Poo_answerTo := ⟨in_tbl 485 (by decide +kernel), in_sel 27 (by decide +kernel)⟩
theorem ok_Poo_isError : mOK mi_Poo_isError 1 := ⟨in_tbl 489 (by decide +kernel), by decide +kernel, by decide +kernel, by decide +kernel, ini_Poo, by decide +kernel⟩
theorem st_Poo_isError : Cond.static (mnm mi_Poo_isError) ∈ lw_g := in_tbl 488 (by decide +kernel)
theorem ok_Poo_noteStop : mOK mi_Poo_noteStop 2 := ⟨in_tbl 493 (by decide +kernel), by decide +kernel, by decide +kernel, by decide +kernel, ini_Poo, by decide +kernel⟩
theorem vi_Poo_noteStop : mVirt mi_Poo_noteStop := ⟨in_tbl 492 (by decide +kernel), in_sel 28 (by decide +kernel)⟩
theorem ok_Poo_stopped : mOK mi_Poo_stopped 1 := ⟨in_tbl 497 (by decide +kernel), by decide +kernel, by decide +kernel, by decide +kernel, ini_Poo, by decide +kernel⟩
theorem vi_Poo_stopped : mVirt mi_Poo_stopped := ⟨in_tbl 495 (by decide +kernel), in_tbl 496 (by decide +kernel)⟩
theorem ok_Poo_undo : mOK mi_Poo_undo 0 := ⟨in_tbl 501 (by decide +kernel), by decide +kernel, by decide +kernel, by decide +kernel, ini_Poo, by decide +kernel⟩
theorem vi_Poo_undo : mVirt mi_Poo_undo := ⟨in_tbl 499 (by decide +kernel), in_tbl 500 (by decide +kernel)⟩
theorem ok_His_takeLatest : mOK mi_His_takeLatest 1 := ⟨in_tbl 505 (by decide +kernel), by decide +kernel, by decide +kernel, by decide +kernel, ini_His, by decide +kernel⟩
theorem vi_His_takeLatest : mVirt mi_His_takeLatest := ⟨in_tbl 503 (by decide +kernel), in_tbl 504 (by decide +kernel)⟩
theorem ok_Poo_keep : mOK mi_Poo_keep 0 := ⟨in_tbl 509 (by decide +kernel), by decide +kernel, by decide +kernel, by decide +kernel, ini_Poo, by decide +kernel⟩
theorem vi_Poo_keep : mVirt mi_Poo_keep := ⟨in_tbl 507 (by decide +kernel), in_tbl 508 (by decide +kernel)⟩
theorem ok_Sta_ownedBlocks : mOK mi_Sta_ownedBlocks 0 := ⟨in_tbl 513 (by decide +kernel), by decide +kernel, by decide +kernel, by decide +kernel, ini_Sta, by decide +kernel⟩
theorem vi_Sta_ownedBlocks : mVirt mi_Sta_ownedBlocks := ⟨in_tbl 511 (by decide +kernel), in_tbl 512 (by decide +kernel)⟩
theorem ok_Poo_restore : mOK mi_Poo_restore 0 := ⟨in_tbl 517 (by decide +kernel), by decide +kernel, by decide +kernel, by decide +kernel, ini_Poo, by decide +kernel⟩
theorem vi_Poo_restore : mVirt mi_Poo_restore := ⟨in_tbl 515 (by decide +kernel), in_tbl 516 (by decide +kernel)⟩
theorem ok_Poo_block : mOK mi_Poo_block 2 := ⟨in_tbl 521 (by decide +kernel), by decide +kernel, by decide +kernel, by decide +kernel, ini_Poo, by decide +kernel⟩
theorem vi_Poo_block : mVirt mi_Poo_block := ⟨in_tbl 519 (by decide +kernel), in_tbl 520 (by decide +kernel)⟩
theorem ok_Sta_tellBlock : mOK mi_Sta_tellBlock 2 := ⟨in_tbl 525 (by decide +kernel), by decide +kernel, by decide +kernel, by decide +kernel, ini_Sta, by decide +kernel⟩
theorem vi_Sta_tellBlock : mVirt mi_Sta_tellBlock := ⟨in_tbl 523 (by decide +kernel), in_tbl 524 (by decide +kernel)⟩
theorem ok_Poo_word : mOK mi_Poo_word 2 := ⟨in_tbl 529 (by decide +kernel), by decide +kernel, by decide +kernel, by decide +kernel, ini_Poo, by decide +kernel⟩
theorem vi_Poo_word : mVirt mi_Poo_word := ⟨in_tbl 527 (by decide +kernel), in_tbl 528 (by decide +kernel)⟩
theorem ok_Sta_tellWord : mOK mi_Sta_tellWord 2 := ⟨in_tbl 533 (by decide +kernel), by decide +kernel, by decide +kernel, by decide +kernel, ini_Sta, by decide +kernel⟩
theorem vi_Sta_tellWord : mVirt mi_Sta_tellWord := ⟨in_tbl 531 (by decide +kernel), in_tbl 532 (by decide +kernel)⟩
theorem ok_Poo_task : mOK mi_Poo_task 2 := ⟨in_tbl 537 (by decide +kernel), by decide +kernel, by decide +kernel, by decide +kernel, ini_Poo, by decide +kernel⟩
theorem vi_Poo_task : mVirt mi_Poo_task := ⟨in_tbl 535 (by decide +kernel), in_tbl 536 (by decide +kernel)⟩
theorem ok_Sta_tellTask : mOK mi_Sta_tellTask 2 := ⟨in_tbl 541 (by decide +kernel), by decide +kernel, by decide +kernel, by decide +kernel, ini_Sta, by decide +kernel⟩
theorem vi_Sta_tellTask : mVirt mi_Sta_tellTask := ⟨in_tbl 539 (by decide +kernel), in_tbl 540 (by decide +kernel)⟩
theorem ok_Sta_askedBy : mOK mi_Sta_askedBy 1 := ⟨in_tbl 545 (by decide +kernel), by decide +kernel, by decide +kernel, by decide +kernel, ini_Sta, by decide +kernel⟩
theorem vi_Sta_askedBy : mVirt mi_Sta_askedBy := ⟨in_tbl 544 (by decide +kernel), in_sel 29 (by decide +kernel)⟩
theorem ok_Poo_reason : mOK mi_Poo_reason 2 := ⟨in_tbl 549 (by decide +kernel), by decide +kernel, by decide +kernel, by decide +kernel, ini_Poo, by decide +kernel⟩
theorem vi_Poo_reason : mVirt mi_Poo_reason := ⟨in_tbl 547 (by decide +kernel), in_tbl 548 (by decide +kernel)⟩
theorem ok_Poo_greatest : mOK mi_Poo_greatest 1 := ⟨in_tbl 553 (by decide +kernel), by decide +kernel, by decide +kernel, by decide +kernel, ini_Poo, by decide +kernel⟩
theorem vi_Poo_greatest : mVirt mi_Poo_greatest := ⟨in_tbl 551 (by decide +kernel), in_tbl 552 (by decide +kernel)⟩
theorem ok_Sta_greatestRequest : mOK mi_Sta_greatestRequest 1 := ⟨in_tbl 557 (by decide +kernel), by decide +kernel, by decide +kernel, by decide +kernel, ini_Sta, by decide +kernel⟩
theorem vi_Sta_greatestRequest : mVirt mi_Sta_greatestRequest := ⟨in_tbl 555 (by decide +kernel), in_tbl 556 (by decide +kernel)⟩
theorem ok_Poo_leak : mOK mi_Poo_leak 1 := ⟨in_tbl 561 (by decide +kernel), by decide +kernel, by decide +kernel, by decide +kernel, ini_Poo, by decide +kernel⟩
theorem vi_Poo_leak : mVirt mi_Poo_leak := ⟨in_tbl 559 (by decide +kernel), in_tbl 560 (by decide +kernel)⟩
theorem ok_Sta_leakOfRank : mOK mi_Sta_leakOfRank 1 := ⟨in_tbl 565 (by decide +kernel), by decide +kernel, by decide +kernel, by decide +kernel, ini_Sta, by decide +kernel⟩
theorem vi_Sta_leakOfRank : mVirt mi_Sta_leakOfRank := ⟨in_tbl 563 (by decide +kernel), in_tbl 564 (by decide +kernel)⟩
theorem ok_Sta_leaksAheadOf : mOK mi_Sta_leaksAheadOf 1 := ⟨in_tbl 569 (by decide +kernel), by decide +kernel, by decide +kernel, by decide +kernel, ini_Sta, by decide +kernel⟩
theorem vi_Sta_leaksAheadOf : mVirt mi_Sta_leaksAheadOf := ⟨in_tbl 568 (by decide +kernel), in_sel 30 (by decide +kernel)⟩
theorem ok_Poo_refused : mOK mi_Poo_refused 1 := ⟨in_tbl 573 (by decide +kernel), by decide +kernel, by decide +kernel, by decide +kernel, ini_Poo, by decide +kernel⟩
theorem vi_Poo_refused : mVirt mi_Poo_refused := ⟨in_tbl 571 (by decide +kernel), in_tbl 572 (by decide +kernel)⟩
theorem ok_Poo_size : mOK mi_Poo_size 2 := ⟨in_tbl 577 (by decide +kernel), by decide +kernel, by decide +kernel, by decide +kernel, ini_Poo, by decide +kernel⟩
theorem vi_Poo_size : mVirt mi_Poo_size := ⟨in_tbl 575 (by decide +kernel), in_tbl 576 (by decide +kernel)⟩
theorem ok_Sta_tellSize : mOK mi_Sta_tellSize 2 := ⟨in_tbl 581 (by decide +kernel), by decide +kernel, by decide +kernel, by decide +kernel, ini_Sta, by decide +kernel⟩
theorem vi_Sta_tellSize : mVirt mi_Sta_tellSize := ⟨in_tbl 579 (by decide +kernel), in_tbl 580 (by decide +kernel)⟩
theorem ok_Sta_blocksOfSize : mOK mi_Sta_blocksOfSize 2 := ⟨in_tbl 585 (by decide +kernel), by decide +kernel, by decide +kernel, by decide +kernel, ini_Sta, by decide +kernel⟩
theorem vi_Sta_blocksOfSize : mVirt mi_Sta_blocksOfSize := ⟨in_tbl 584 (by decide +kernel), in_sel 31 (by decide +kernel)⟩
theorem ok_Poo_count : mOK mi_Poo_count 1 := ⟨in_tbl 589 (by decide +kernel), by decide +kernel, by decide +kernel, by decide +kernel, ini_Poo, by decide +kernel⟩
theorem vi_Poo_count : mVirt mi_Poo_count := ⟨in_tbl 587 (by decide +kernel), in_tbl 588 (by decide +kernel)⟩
theorem ok_His_length : mOK mi_His_length 0 := ⟨in_tbl 593 (by decide +kernel), by decide +kernel, by decide +kernel, by decide +kernel, ini_His, by decide +kernel⟩
theorem vi_His_length : mVirt mi_His_length := ⟨in_tbl 591 (by decide +kernel), in_tbl 592 (by decide +kernel)⟩
theorem ok_Txt_length : mOK mi_Txt_length 0 := ⟨in_tbl 597 (by decide +kernel), by decide +kernel, by decide +kernel, by decide +kernel, ini_Txt, by decide +kernel⟩
theorem vi_Txt_length : mVirt mi_Txt_length := ⟨in_tbl 595 (by decide +kernel), in_tbl 596 (by decide +kernel)⟩
theorem ok_Sta_tellCount : mOK mi_Sta_tellCount 1 := ⟨in_tbl 601 (by decide +kernel), by decide +kernel, by decide +kernel, by decide +kernel, ini_Sta, by decide +kernel⟩
theorem vi_Sta_tellCount : mVirt mi_Sta_tellCount := ⟨in_tbl 599 (by decide +kernel), in_tbl 600 (by decide +kernel)⟩
theorem ok_Sta_ownedWords : mOK mi_Sta_ownedWords 0 := ⟨in_tbl 606 (by decide +kernel), by decide +kernel, by decide +kernel, by decide +kernel, ini_Sta, by decide +kernel⟩
theorem vi_Sta_ownedWords : mVirt mi_Sta_ownedWords := ⟨in_tbl 605 (by decide +kernel), in_sel 32 (by decide +kernel)⟩
theorem ok_Sta_askedWords : mOK mi_Sta_askedWords 0 := ⟨in_tbl 610 (by decide +kernel), by decide +kernel, by decide +kernel, by decide +kernel, ini_Sta, by decide +kernel⟩
theorem vi_Sta_askedWords : mVirt mi_Sta_askedWords := ⟨in_tbl 609 (by decide +kernel), in_sel 33 (by decide +kernel)⟩
theorem ok_Mod_init : mOK mi_Mod_init 0 := ⟨in_tbl 615 (by decide +kernel), by decide +kernel, by decide +kernel, by decide +kernel, ini_Mod, by decide +kernel⟩
theorem in_Mod_init : Cond.instanceMethod (mnm mi_Mod_init) ∈ lw_g := in_tbl 614 (by decide +kernel)
theorem ok_Mod_ask : mOK mi_Mod_ask 2 := ⟨in_tbl 672 (by decide +kernel), by decide +kernel, by decide +kernel, by decide +kernel, ini_Mod, by decide +kernel⟩
theorem vi_Mod_ask : mVirt mi_Mod_ask := ⟨in_tbl 670 (by decide +kernel), in_tbl 671 (by decide +kernel)⟩
theorem ok_Mod_askFault : mOK mi_Mod_askFault 2 := ⟨in_tbl 676 (by decide +kernel), by decide +kernel, by decide +kernel, by decide +kernel, ini_Mod, by decide +kernel⟩
theorem vi_Mod_askFault : mVirt mi_Mod_askFault := ⟨in_tbl 675 (by decide +kernel), in_sel 34 (by decide +kernel)⟩
theorem ok_Mod_isTask : mOK mi_Mod_isTask 1 := ⟨in_tbl 679 (by decide +kernel), by decide +kernel, by decide +kernel, by decide +kernel, ini_Mod, by decide +kernel⟩
theorem st_Mod_isTask : Cond.static (mnm mi_Mod_isTask) ∈ lw_g := in_tbl 678 (by decide +kernel)
theorem ok_Mod_in : mOK mi_Mod_in 3 := ⟨in_tbl 682 (by decide +kernel), by decide +kernel, by decide +kernel, by decide +kernel, ini_Mod, by decide +kernel⟩
theorem st_Mod_in : Cond.static (mnm mi_Mod_in) ∈ lw_g := in_tbl 681 (by decide +kernel)
theorem ok_Mod_why : mOK mi_Mod_why 2 := ⟨in_tbl 686 (by decide +kernel), by decide +kernel, by decide +kernel, by decide +kernel, ini_Mod, by decide +kernel⟩
theorem vi_Mod_why : mVirt mi_Mod_why := ⟨in_tbl 685 (by decide +kernel), in_sel 35 (by decide +kernel)⟩
theorem ok_Mod_sizeFor : mOK mi_Mod_sizeFor 1 := ⟨in_tbl 689 (by decide +kernel), by decide +kernel, by decide +kernel, by decide +kernel, ini_Mod, by decide +kernel⟩
theorem st_Mod_sizeFor : Cond.static (mnm mi_Mod_sizeFor) ∈ lw_g := in_tbl 688 (by decide +kernel)
theorem ok_Mod_wordsOf : mOK mi_Mod_wordsOf 1 := ⟨in_tbl 693 (by decide +kernel), by decide +kernel, by decide +kernel, by decide +kernel, ini_Mod, by decide +kernel⟩
theorem vi_Mod_wordsOf : mVirt mi_Mod_wordsOf := ⟨in_tbl 692 (by decide +kernel), in_sel 36 (by decide +kernel)⟩
theorem ok_Mod_isOwned : mOK mi_Mod_isOwned 1 := ⟨in_tbl 697 (by decide +kernel), by decide +kernel, by decide +kernel, by decide +kernel, ini_Mod, by decide +kernel⟩
theorem vi_Mod_isOwned : mVirt mi_Mod_isOwned := ⟨in_tbl 696 (by decide +kernel), in_sel 37 (by decide +kernel)⟩
theorem ok_Mod_lowestFree : mOK mi_Mod_lowestFree 1 := ⟨in_tbl 701 (by decide +kernel), by decide +kernel, by decide +kernel, by decide +kernel, ini_Mod, by decide +kernel⟩
theorem vi_Mod_lowestFree : mVirt mi_Mod_lowestFree := ⟨in_tbl 700 (by decide +kernel), in_sel 38 (by decide +kernel)⟩
theorem ok_Mod_isFree : mOK mi_Mod_isFree 1 := ⟨in_tbl 705 (by decide +kernel), by decide +kernel, by decide +kernel, by decide +kernel, ini_Mod, by decide +kernel⟩
theorem vi_Mod_isFree : mVirt mi_Mod_isFree := ⟨in_tbl 704 (by decide +kernel), in_sel 39 (by decide +kernel)⟩
theorem ok_Mod_know : mOK mi_Mod_know 0 := ⟨in_tbl 709 (by decide +kernel), by decide +kernel, by decide +kernel, by decide +kernel, ini_Mod, by decide +kernel⟩
theorem vi_Mod_know : mVirt mi_Mod_know := ⟨in_tbl 708 (by decide +kernel), in_sel 40 (by decide +kernel)⟩
theorem ok_Mod_asks : mOK mi_Mod_asks 2 := ⟨in_tbl 713 (by decide +kernel), by decide +kernel, by decide +kernel, by decide +kernel, ini_Mod, by decide +kernel⟩
theorem vi_Mod_asks : mVirt mi_Mod_asks := ⟨in_tbl 712 (by decide +kernel), in_sel 41 (by decide +kernel)⟩
theorem ok_Mod_taken : mOK mi_Mod_taken 1 := ⟨in_tbl 717 (by decide +kernel), by decide +kernel, by decide +kernel, by decide +kernel, ini_Mod, by decide +kernel⟩
theorem vi_Mod_taken : mVirt mi_Mod_taken := ⟨in_tbl 716 (by decide +kernel), in_sel 42 (by decide +kernel)⟩
theorem ok_Mod_giveBack : mOK mi_Mod_giveBack 2 := ⟨in_tbl 721 (by decide +kernel), by decide +kernel, by decide +kernel, by decide +kernel, ini_Mod, by decide +kernel⟩
theorem vi_Mod_giveBack : mVirt mi_Mod_giveBack := ⟨in_tbl 719 (by decide +kernel), in_tbl 720 (by decide +kernel)⟩
theorem ok_Mod_backFault : mOK mi_Mod_backFault 2 := ⟨in_tbl 725 (by decide +kernel), by decide +kernel, by decide +kernel, by decide +kernel, ini_Mod, by decide +kernel⟩
theorem vi_Mod_backFault : mVirt mi_Mod_backFault := ⟨in_tbl 724 (by decide +kernel), in_sel 43 (by decide +kernel)⟩
theorem ok_Mod_beginOf : mOK mi_Mod_beginOf 1 := ⟨in_tbl 729 (by decide +kernel), by decide +kernel, by decide +kernel, by decide +kernel, ini_Mod, by decide +kernel⟩
theorem vi_Mod_beginOf : mVirt mi_Mod_beginOf := ⟨in_tbl 728 (by decide +kernel), in_sel 44 (by decide +kernel)⟩
theorem ok_Mod_frees : mOK mi_Mod_frees 1 := ⟨in_tbl 733 (by decide +kernel), by decide +kernel, by decide +kernel, by decide +kernel, ini_Mod, by decide +kernel⟩
theorem vi_Mod_frees : mVirt mi_Mod_frees := ⟨in_tbl 732 (by decide +kernel), in_sel 45 (by decide +kernel)⟩
theorem ok_Mod_broken : mOK mi_Mod_broken 1 := ⟨in_tbl 737 (by decide +kernel), by decide +kernel, by decide +kernel, by decide +kernel, ini_Mod, by decide +kernel⟩
theorem vi_Mod_broken : mVirt mi_Mod_broken := ⟨in_tbl 736 (by decide +kernel), in_sel 46 (by decide +kernel)⟩
theorem ok_Mod_write : mOK mi_Mod_write 4 := ⟨in_tbl 741 (by decide +kernel), by decide +kernel, by decide +kernel, by decide +kernel, ini_Mod, by decide +kernel⟩
theorem vi_Mod_write : mVirt mi_Mod_write := ⟨in_tbl 739 (by decide +kernel), in_tbl 740 (by decide +kernel)⟩
theorem ok_Mod_beginAt : mOK mi_Mod_beginAt 1 := ⟨in_tbl 745 (by decide +kernel), by decide +kernel, by decide +kernel, by decide +kernel, ini_Mod, by decide +kernel⟩
theorem vi_Mod_beginAt : mVirt mi_Mod_beginAt := ⟨in_tbl 744 (by decide +kernel), in_sel 47 (by decide +kernel)⟩
theorem ok_Mod_isGuard : mOK mi_Mod_isGuard 1 := ⟨in_tbl 749 (by decide +kernel), by decide +kernel, by decide +kernel, by decide +kernel, ini_Mod, by decide +kernel⟩
theorem vi_Mod_isGuard : mVirt mi_Mod_isGuard := ⟨in_tbl 748 (by decide +kernel), in_sel 48 (by decide +kernel)⟩
theorem ok_Mod_touch : mOK mi_Mod_touch 1 := ⟨in_tbl 753 (by decide +kernel), by decide +kernel, by decide +kernel, by decide +kernel, ini_Mod, by decide +kernel⟩
theorem vi_Mod_touch : mVirt mi_Mod_touch := ⟨in_tbl 751 (by decide +kernel), in_tbl 752 (by decide +kernel)⟩
theorem ok_Mod_puts : mOK mi_Mod_puts 2 := ⟨in_tbl 757 (by decide +kernel), by decide +kernel, by decide +kernel, by decide +kernel, ini_Mod, by decide +kernel⟩
theorem vi_Mod_puts : mVirt mi_Mod_puts := ⟨in_tbl 756 (by decide +kernel), in_sel 49 (by decide +kernel)⟩
theorem ok_Mod_live : mOK mi_Mod_live 2 := ⟨in_tbl 761 (by decide +kernel), by decide +kernel, by decide +kernel, by decide +kernel, ini_Mod, by decide +kernel⟩
theorem vi_Mod_live : mVirt mi_Mod_live := ⟨in_tbl 759 (by decide +kernel), in_tbl 760 (by decide +kernel)⟩
theorem ok_Mod_blocksOf : mOK mi_Mod_blocksOf 1 := ⟨in_tbl 765 (by decide +kernel), by decide +kernel, by decide +kernel, by decide +kernel, ini_Mod, by decide +kernel⟩
theorem vi_Mod_blocksOf : mVirt mi_Mod_blocksOf := ⟨in_tbl 764 (by decide +kernel), in_sel 50 (by decide +kernel)⟩
theorem ok_Mod_setLimit : mOK mi_Mod_setLimit 2 := ⟨in_tbl 769 (by decide +kernel), by decide +kernel, by decide +kernel, by decide +kernel, ini_Mod, by decide +kernel⟩
theorem vi_Mod_setLimit : mVirt mi_Mod_setLimit := ⟨in_tbl 767 (by decide +kernel), in_tbl 768 (by decide +kernel)⟩
theorem ok_Mod_setPatience : mOK mi_Mod_setPatience 1 := ⟨in_tbl 773 (by decide +kernel), by decide +kernel, by decide +kernel, by decide +kernel, ini_Mod, by decide +kernel⟩
theorem vi_Mod_setPatience : mVirt mi_Mod_setPatience := ⟨in_tbl 771 (by decide +kernel), in_tbl 772 (by decide +kernel)⟩
theorem ok_Mod_pass : mOK mi_Mod_pass 1 := ⟨in_tbl 777 (by decide +kernel), by decide +kernel, by decide +kernel, by decide +kernel, ini_Mod, by decide +kernel⟩
theorem vi_Mod_pass : mVirt mi_Mod_pass := ⟨in_tbl 775 (by decide +kernel), in_tbl 776 (by decide +kernel)⟩
theorem ok_Mod_passFault : mOK mi_Mod_passFault 1 := ⟨in_tbl 781 (by decide +kernel), by decide +kernel, by decide +kernel, by decide +kernel, ini_Mod, by decide +kernel⟩
theorem vi_Mod_passFault : mVirt mi_Mod_passFault := ⟨in_tbl 780 (by decide +kernel), in_sel 51 (by decide +kernel)⟩
theorem ok_Mod_passes : mOK mi_Mod_passes 1 := ⟨in_tbl 785 (by decide +kernel), by decide +kernel, by decide +kernel, by decide +kernel, ini_Mod, by decide +kernel⟩
theorem vi_Mod_passes : mVirt mi_Mod_passes := ⟨in_tbl 784 (by decide +kernel), in_sel 52 (by decide +kernel)⟩
theorem ok_Mod_leaks : mOK mi_Mod_leaks 1 := ⟨in_tbl 789 (by decide +kernel), by decide +kernel, by decide +kernel, by decide +kernel, ini_Mod, by decide +kernel⟩
theorem vi_Mod_leaks : mVirt mi_Mod_leaks := ⟨in_tbl 788 (by decide +kernel), in_sel 53 (by decide +kernel)⟩
theorem ok_Mod_isLeak : mOK mi_Mod_isLeak 1 := ⟨in_tbl 793 (by decide +kernel), by decide +kernel, by decide +kernel, by decide +kernel, ini_Mod, by decide +kernel⟩
theorem vi_Mod_isLeak : mVirt mi_Mod_isLeak := ⟨in_tbl 792 (by decide +kernel), in_sel 54 (by decide +kernel)⟩
theorem ok_Mod_sweep : mOK mi_Mod_sweep 0 := ⟨in_tbl 797 (by decide +kernel), by decide +kernel, by decide +kernel, by decide +kernel, ini_Mod, by decide +kernel⟩
theorem vi_Mod_sweep : mVirt mi_Mod_sweep := ⟨in_tbl 795 (by decide +kernel), in_tbl 796 (by decide +kernel)⟩
theorem ok_Mod_sweeps : mOK mi_Mod_sweeps 0 := ⟨in_tbl 801 (by decide +kernel), by decide +kernel, by decide +kernel, by decide +kernel, ini_Mod, by decide +kernel⟩
theorem vi_Mod_sweeps : mVirt mi_Mod_sweeps := ⟨in_tbl 800 (by decide +kernel), in_sel 55 (by decide +kernel)⟩
theorem ok_Mod_type : mOK mi_Mod_type 1 := ⟨in_tbl 805 (by decide +kernel), by decide +kernel, by decide +kernel, by decide +kernel, ini_Mod, by decide +kernel⟩
theorem vi_Mod_type : mVirt mi_Mod_type := ⟨in_tbl 803 (by decide +kernel), in_tbl 804 (by decide +kernel)⟩
theorem ok_Mod_clearText : mOK mi_Mod_clearText 0 := ⟨in_tbl 809 (by decide +kernel), by decide +kernel, by decide +kernel, by decide +kernel, ini_Mod, by decide +kernel⟩
theorem vi_Mod_clearText : mVirt mi_Mod_clearText := ⟨in_tbl 807 (by decide +kernel), in_tbl 808 (by decide +kernel)⟩
theorem ok_Mod_perform : mOK mi_Mod_perform 0 := ⟨in_tbl 813 (by decide +kernel), by decide +kernel, by decide +kernel, by decide +kernel, ini_Mod, by decide +kernel⟩
theorem vi_Mod_perform : mVirt mi_Mod_perform := ⟨in_tbl 811 (by decide +kernel), in_tbl 812 (by decide +kernel)⟩
theorem ok_Mod_go : mOK mi_Mod_go 1 := ⟨in_tbl 817 (by decide +kernel), by decide +kernel, by decide +kernel, by decide +kernel, ini_Mod, by decide +kernel⟩
theorem vi_Mod_go : mVirt mi_Mod_go := ⟨in_tbl 816 (by decide +kernel), in_sel 56 (by decide +kernel)⟩
theorem ok_Mod_read : mOK mi_Mod_read 0 := ⟨in_tbl 821 (by decide +kernel), by decide +kernel, by decide +kernel, by decide +kernel, ini_Mod, by decide +kernel⟩
theorem vi_Mod_read : mVirt mi_Mod_read := ⟨in_tbl 820 (by decide +kernel), in_sel 57 (by decide +kernel)⟩
theorem ok_Mod_number : mOK mi_Mod_number 2 := ⟨in_tbl 825 (by decide +kernel), by decide +kernel, by decide +kernel, by decide +kernel, ini_Mod, by decide +kernel⟩
theorem vi_Mod_number : mVirt mi_Mod_number := ⟨in_tbl 824 (by decide +kernel), in_sel 58 (by decide +kernel)⟩
theorem ok_Mod_sign : mOK mi_Mod_sign 2 := ⟨in_tbl 829 (by decide +kernel), by decide +kernel, by decide +kernel, by decide +kernel, ini_Mod, by decide +kernel⟩
theorem vi_Mod_sign : mVirt mi_Mod_sign := ⟨in_tbl 828 (by decide +kernel), in_sel 59 (by decide +kernel)⟩
theorem ok_Mod_does : mOK mi_Mod_does 0 := ⟨in_tbl 833 (by decide +kernel), by decide +kernel, by decide +kernel, by decide +kernel, ini_Mod, by decide +kernel⟩
theorem vi_Mod_does : mVirt mi_Mod_does := ⟨in_tbl 832 (by decide +kernel), in_sel 60 (by decide +kernel)⟩
theorem ok_Mod_putAside : mOK mi_Mod_putAside 0 := ⟨in_tbl 837 (by decide +kernel), by decide +kernel, by decide +kernel, by decide +kernel, ini_Mod, by decide +kernel⟩
theorem vi_Mod_putAside : mVirt mi_Mod_putAside := ⟨in_tbl 836 (by decide +kernel), in_sel 61 (by decide +kernel)⟩
theorem ok_Mod_putBack : mOK mi_Mod_putBack 0 := ⟨in_tbl 841 (by decide +kernel), by decide +kernel, by decide +kernel, by decide +kernel, ini_Mod, by decide +kernel⟩
theorem vi_Mod_putBack : mVirt mi_Mod_putBack := ⟨in_tbl 840 (by decide +kernel), in_sel 62 (by decide +kernel)⟩
theorem ok_Mod_stopped : mOK mi_Mod_stopped 1 := ⟨in_tbl 845 (by decide +kernel), by decide +kernel, by decide +kernel, by decide +kernel, ini_Mod, by decide +kernel⟩
theorem vi_Mod_stopped : mVirt mi_Mod_stopped := ⟨in_tbl 843 (by decide +kernel), in_tbl 844 (by decide +kernel)⟩
theorem ok_Mod_undo : mOK mi_Mod_undo 0 := ⟨in_tbl 849 (by decide +kernel), by decide +kernel, by decide +kernel, by decide +kernel, ini_Mod, by decide +kernel⟩
theorem vi_Mod_undo : mVirt mi_Mod_undo := ⟨in_tbl 847 (by decide +kernel), in_tbl 848 (by decide +kernel)⟩
theorem ok_Mod_keep : mOK mi_Mod_keep 0 := ⟨in_tbl 853 (by decide +kernel), by decide +kernel, by decide +kernel, by decide +kernel, ini_Mod, by decide +kernel⟩
theorem vi_Mod_keep : mVirt mi_Mod_keep := ⟨in_tbl 851 (by decide +kernel), in_tbl 852 (by decide +kernel)⟩
theorem ok_Mod_owned : mOK mi_Mod_owned 0 := ⟨in_tbl 857 (by decide +kernel), by decide +kernel, by decide +kernel, by decide +kernel, ini_Mod, by decide +kernel⟩
theorem vi_Mod_owned : mVirt mi_Mod_owned := ⟨in_tbl 856 (by decide +kernel), in_sel 63 (by decide +kernel)⟩
theorem ok_Mod_restore : mOK mi_Mod_restore 0 := ⟨in_tbl 861 (by decide +kernel), by decide +kernel, by decide +kernel, by decide +kernel, ini_Mod, by decide +kernel⟩
theorem vi_Mod_restore : mVirt mi_Mod_restore := ⟨in_tbl 859 (by decide +kernel), in_tbl 860 (by decide +kernel)⟩
theorem ok_Mod_block : mOK mi_Mod_block 2 := ⟨in_tbl 865 (by decide +kernel), by decide +kernel, by decide +kernel, by decide +kernel, ini_Mod, by decide +kernel⟩
theorem vi_Mod_block : mVirt mi_Mod_block := ⟨in_tbl 863 (by decide +kernel), in_tbl 864 (by decide +kernel)⟩
theorem ok_Mod_sizeNumber : mOK mi_Mod_sizeNumber 1 := ⟨in_tbl 868 (by decide +kernel), by decide +kernel, by decide +kernel, by decide +kernel, ini_Mod, by decide +kernel⟩
theorem st_Mod_sizeNumber : Cond.static (mnm mi_Mod_sizeNumber) ∈ lw_g := in_tbl 867 (by decide +kernel)
theorem ok_Mod_word : mOK mi_Mod_word 2 := ⟨in_tbl 872 (by decide +kernel), by decide +kernel, by decide +kernel, by decide +kernel, ini_Mod, by decide +kernel⟩
theorem vi_Mod_word : mVirt mi_Mod_word := ⟨in_tbl 870 (by decide +kernel), in_tbl 871 (by decide +kernel)⟩
theorem ok_Mod_task : mOK mi_Mod_task 2 := ⟨in_tbl 876 (by decide +kernel), by decide +kernel, by decide +kernel, by decide +kernel, ini_Mod, by decide +kernel⟩
theorem vi_Mod_task : mVirt mi_Mod_task := ⟨in_tbl 874 (by decide +kernel), in_tbl 875 (by decide +kernel)⟩
theorem ok_Mod_asked : mOK mi_Mod_asked 1 := ⟨in_tbl 880 (by decide +kernel), by decide +kernel, by decide +kernel, by decide +kernel, ini_Mod, by decide +kernel⟩
theorem vi_Mod_asked : mVirt mi_Mod_asked := ⟨in_tbl 879 (by decide +kernel), in_sel 64 (by decide +kernel)⟩
theorem ok_Mod_reason : mOK mi_Mod_reason 2 := ⟨in_tbl 884 (by decide +kernel), by decide +kernel, by decide +kernel, by decide +kernel, ini_Mod, by decide +kernel⟩
theorem vi_Mod_reason : mVirt mi_Mod_reason := ⟨in_tbl 882 (by decide +kernel), in_tbl 883 (by decide +kernel)⟩
theorem ok_Mod_greatest : mOK mi_Mod_greatest 1 := ⟨in_tbl 888 (by decide +kernel), by decide +kernel, by decide +kernel, by decide +kernel, ini_Mod, by decide +kernel⟩
theorem vi_Mod_greatest : mVirt mi_Mod_greatest := ⟨in_tbl 886 (by decide +kernel), in_tbl 887 (by decide +kernel)⟩
theorem ok_Mod_leak : mOK mi_Mod_leak 1 := ⟨in_tbl 892 (by decide +kernel), by decide +kernel, by decide +kernel, by decide +kernel, ini_Mod, by decide +kernel⟩
theorem vi_Mod_leak : mVirt mi_Mod_leak := ⟨in_tbl 890 (by decide +kernel), in_tbl 891 (by decide +kernel)⟩
theorem ok_Mod_ahead : mOK mi_Mod_ahead 1 := ⟨in_tbl 896 (by decide +kernel), by decide +kernel, by decide +kernel, by decide +kernel, ini_Mod, by decide +kernel⟩
theorem vi_Mod_ahead : mVirt mi_Mod_ahead := ⟨in_tbl 895 (by decide +kernel), in_sel 65 (by decide +kernel)⟩
theorem ok_Mod_refused : mOK mi_Mod_refused 1 := ⟨in_tbl 900 (by decide +kernel), by decide +kernel, by decide +kernel, by decide +kernel, ini_Mod, by decide +kernel⟩
theorem vi_Mod_refused : mVirt mi_Mod_refused := ⟨in_tbl 898 (by decide +kernel), in_tbl 899 (by decide +kernel)⟩
theorem ok_Mod_size : mOK mi_Mod_size 2 := ⟨in_tbl 904 (by decide +kernel), by decide +kernel, by decide +kernel, by decide +kernel, ini_Mod, by decide +kernel⟩
theorem vi_Mod_size : mVirt mi_Mod_size := ⟨in_tbl 902 (by decide +kernel), in_tbl 903 (by decide +kernel)⟩
theorem ok_Mod_count : mOK mi_Mod_count 1 := ⟨in_tbl 908 (by decide +kernel), by decide +kernel, by decide +kernel, by decide +kernel, ini_Mod, by decide +kernel⟩
theorem vi_Mod_count : mVirt mi_Mod_count := ⟨in_tbl 906 (by decide +kernel), in_tbl 907 (by decide +kernel)⟩
theorem ok_Mod_freeWords : mOK mi_Mod_freeWords 0 := ⟨in_tbl 912 (by decide +kernel), by decide +kernel, by decide +kernel, by decide +kernel, ini_Mod, by decide +kernel⟩
theorem vi_Mod_freeWords : mVirt mi_Mod_freeWords := ⟨in_tbl 911 (by decide +kernel), in_sel 66 (by decide +kernel)⟩
theorem ml_Law_9 : Cond.methodLink "GuardedPoolLaw" 9 (mnm mi_Poo_init) ∈ lw_g := in_tbl 13 (by decide +kernel)
theorem ml_Poo_1 : Cond.methodLink "GuardedPool" 1 Lib.objectInit ∈ lw_g := in_tbl 16 (by decide +kernel)
theorem ml_Poo_9 : Cond.methodLink "GuardedPool" 9 (mnm mi_Sta_init) ∈ lw_g := in_tbl 21 (by decide +kernel)
theorem ml_Sta_3 : Cond.methodLink "GuardedPool$State" 3 Lib.objectInit ∈ lw_g := in_tbl 24 (by decide +kernel)
theorem ml_Sta_17 : Cond.methodLink "GuardedPool$State" 17 (mnm mi_Blk_init) ∈ lw_g := in_tbl 28 (by decide +kernel)
theorem ml_Blk_3 : Cond.methodLink "GuardedPool$Block" 3 Lib.objectInit ∈ lw_g := in_tbl 31 (by decide +kernel)
theorem ml_Sta_30 : Cond.methodLink "GuardedPool$State" 30 (mnm mi_Tsk_init) ∈ lw_g := in_tbl 60 (by decide +kernel)
theorem ml_Tsk_3 : Cond.methodLink "GuardedPool$Task" 3 Lib.objectInit ∈ lw_g := in_tbl 63 (by decide +kernel)
theorem ml_Poo_24 : Cond.methodLink "GuardedPool" 24 (mnm mi_His_init) ∈ lw_g := in_tbl 108 (by decide +kernel)
theorem ml_His_3 : Cond.methodLink "GuardedPool$History" 3 Lib.objectInit ∈ lw_g := in_tbl 111 (by decide +kernel)
theorem ml_His_17 : Cond.methodLink "GuardedPool$History" 17 (mnm mi_Sta_init) ∈ lw_g := in_tbl 114 (by decide +kernel)
theorem ml_Poo_31 : Cond.methodLink "GuardedPool" 31 (mnm mi_Txt_init) ∈ lw_g := in_tbl 127 (by decide +kernel)
theorem ml_Txt_3 : Cond.methodLink "GuardedPool$Text" 3 Lib.objectInit ∈ lw_g := in_tbl 130 (by decide +kernel)
theorem ml_Txt_21 : Cond.methodLinkNest "GuardedPool$Text" 21 (mnm mi_Cmd_init) "GuardedPool" ∈ lw_tbl := in_raw 134 (by decide +kernel)
theorem ml_Cmd_1 : Cond.methodLink "GuardedPool$Command" 1 Lib.objectInit ∈ lw_g := in_tbl 137 (by decide +kernel)
theorem ml_Law_13 : Cond.methodLink "GuardedPoolLaw" 13 (mnm mi_Poo_ask) ∈ lw_g := in_tbl 202 (by decide +kernel)
theorem ml_Poo_40 : Cond.methodLink "GuardedPool" 40 (mnm mi_Sta_copyFrom) ∈ lw_g := in_tbl 206 (by decide +kernel)
theorem ml_Sta_35 : Cond.methodLink "GuardedPool$State" 35 (mnm mi_Blk_copyFrom) ∈ lw_g := in_tbl 210 (by decide +kernel)
theorem ml_Sta_39 : Cond.methodLink "GuardedPool$State" 39 arraycopyName ∈ lw_g := in_tbl 214 (by decide +kernel)
theorem ml_Sta_45 : Cond.methodLink "GuardedPool$State" 45 (mnm mi_Tsk_copyFrom) ∈ lw_g := in_tbl 217 (by decide +kernel)
theorem ml_Poo_44 : Cond.methodLink "GuardedPool" 44 (mnm mi_Sta_grant) ∈ lw_g := in_tbl 221 (by decide +kernel)
theorem ml_Sta_63 : Cond.methodLink "GuardedPool$State" 63 (mnm mi_Sta_whyNot) ∈ lw_g := in_tbl 225 (by decide +kernel)
theorem ml_Sta_90 : Cond.methodLink "GuardedPool$State" 90 (mnm mi_Sta_taskOf) ∈ lw_g := in_tbl 229 (by decide +kernel)
theorem ml_Sta_67 : Cond.methodLink "GuardedPool$State" 67 (mnm mi_Sta_sizeFor) ∈ lw_g := in_tbl 233 (by decide +kernel)
theorem ml_Sta_138 : Cond.methodLink "GuardedPool$State" 138 (mnm mi_Blk_wordsOf) ∈ lw_g := in_tbl 236 (by decide +kernel)
theorem ml_Sta_185 : Cond.methodLink "GuardedPool$State" 185 (mnm mi_Sta_wordsOf) ∈ lw_g := in_tbl 239 (by decide +kernel)
theorem ml_Sta_157 : Cond.methodLink "GuardedPool$State" 157 (mnm mi_Blk_words) ∈ lw_g := in_tbl 243 (by decide +kernel)
theorem ml_Blk_30 : Cond.methodLink "GuardedPool$Block" 30 (mnm mi_Blk_wordsOf) ∈ lw_g := in_tbl 247 (by decide +kernel)
theorem ml_Sta_148 : Cond.methodLink "GuardedPool$State" 148 (mnm mi_Sta_roomFor) ∈ lw_g := in_tbl 248 (by decide +kernel)
theorem ml_Sta_145 : Cond.methodLink "GuardedPool$State" 145 (mnm mi_Sta_lowestFree) ∈ lw_g := in_tbl 252 (by decide +kernel)
theorem ml_Sta_141 : Cond.methodLink "GuardedPool$State" 141 (mnm mi_Blk_isFreeOf) ∈ lw_g := in_tbl 256 (by decide +kernel)
theorem ml_Sta_71 : Cond.methodLink "GuardedPool$State" 71 (mnm mi_Sta_cutOut) ∈ lw_g := in_tbl 260 (by decide +kernel)
theorem ml_Sta_154 : Cond.methodLink "GuardedPool$State" 154 (mnm mi_Sta_halve) ∈ lw_g := in_tbl 264 (by decide +kernel)
theorem ml_Sta_160 : Cond.methodLink "GuardedPool$State" 160 (mnm mi_Sta_placeAt) ∈ lw_g := in_tbl 268 (by decide +kernel)
theorem ml_Poo_48 : Cond.methodLink "GuardedPool" 48 (mnm mi_Sta_whyNot) ∈ lw_g := in_tbl 272 (by decide +kernel)
theorem ml_Poo_51 : Cond.methodLink "GuardedPool" 51 (mnm mi_Poo_countRefusal) ∈ lw_g := in_tbl 273 (by decide +kernel)
theorem ml_Poo_55 : Cond.methodLink "GuardedPool" 55 (mnm mi_Poo_recorded) ∈ lw_g := in_tbl 277 (by decide +kernel)
theorem ml_Poo_161 : Cond.methodLink "GuardedPool" 161 (mnm mi_His_record) ∈ lw_g := in_tbl 281 (by decide +kernel)
theorem ml_His_25 : Cond.methodLink "GuardedPool$History" 25 (mnm mi_Sta_copyFrom) ∈ lw_g := in_tbl 285 (by decide +kernel)
theorem ml_His_29 : Cond.methodLink "GuardedPool$History" 29 Lib.Math.min.name ∈ lw_g := in_tbl 286 (by decide +kernel)
theorem ml_Law_18 : Cond.methodLink "GuardedPoolLaw" 18 (mnm mi_Poo_giveBack) ∈ lw_g := in_tbl 289 (by decide +kernel)
theorem ml_Poo_59 : Cond.methodLink "GuardedPool" 59 (mnm mi_Sta_takeBack) ∈ lw_g := in_tbl 293 (by decide +kernel)
theorem ml_Sta_87 : Cond.methodLink "GuardedPool$State" 87 (mnm mi_Sta_blockOf) ∈ lw_g := in_tbl 297 (by decide +kernel)
theorem ml_Sta_169 : Cond.methodLink "GuardedPool$State" 169 (mnm mi_Blk_isOwned) ∈ lw_g := in_tbl 301 (by decide +kernel)
theorem ml_Sta_94 : Cond.methodLink "GuardedPool$State" 94 (mnm mi_Sta_free) ∈ lw_g := in_tbl 305 (by decide +kernel)
theorem ml_Sta_163 : Cond.methodLink "GuardedPool$State" 163 (mnm mi_Sta_brokenGuards) ∈ lw_g := in_tbl 309 (by decide +kernel)
theorem ml_Sta_112 : Cond.methodLink "GuardedPool$State" 112 (mnm mi_Sta_valueAt) ∈ lw_g := in_tbl 313 (by decide +kernel)
theorem ml_Sta_182 : Cond.methodLink "GuardedPool$State" 182 (mnm mi_Blk_rearGuard) ∈ lw_g := in_tbl 317 (by decide +kernel)
theorem ml_Sta_118 : Cond.methodLink "GuardedPool$State" 118 (mnm mi_Sta_setValue) ∈ lw_g := in_tbl 321 (by decide +kernel)
theorem ml_Sta_166 : Cond.methodLink "GuardedPool$State" 166 (mnm mi_Sta_joinTwins) ∈ lw_g := in_tbl 325 (by decide +kernel)
theorem ml_Law_22 : Cond.methodLink "GuardedPoolLaw" 22 (mnm mi_Poo_write) ∈ lw_g := in_tbl 329 (by decide +kernel)
theorem ml_Poo_62 : Cond.methodLink "GuardedPool" 62 (mnm mi_Sta_put) ∈ lw_g := in_tbl 333 (by decide +kernel)
theorem ml_Sta_101 : Cond.methodLink "GuardedPool$State" 101 (mnm mi_Sta_blockAt) ∈ lw_g := in_tbl 337 (by decide +kernel)
theorem ml_Sta_173 : Cond.methodLink "GuardedPool$State" 173 (mnm mi_Blk_holds) ∈ lw_g := in_tbl 341 (by decide +kernel)
theorem ml_Blk_34 : Cond.methodLink "GuardedPool$Block" 34 (mnm mi_Blk_words) ∈ lw_g := in_tbl 345 (by decide +kernel)
theorem ml_Sta_108 : Cond.methodLink "GuardedPool$State" 108 (mnm mi_Sta_kindOfHit) ∈ lw_g := in_tbl 346 (by decide +kernel)
theorem ml_Sta_176 : Cond.methodLink "GuardedPool$State" 176 (mnm mi_Blk_hasGuardAt) ∈ lw_g := in_tbl 349 (by decide +kernel)
theorem ml_Blk_38 : Cond.methodLink "GuardedPool$Block" 38 (mnm mi_Blk_isOwned) ∈ lw_g := in_tbl 353 (by decide +kernel)
theorem ml_Blk_42 : Cond.methodLink "GuardedPool$Block" 42 (mnm mi_Blk_rearGuard) ∈ lw_g := in_tbl 354 (by decide +kernel)
theorem ml_Sta_179 : Cond.methodLink "GuardedPool$State" 179 (mnm mi_Blk_wasAskedFor) ∈ lw_g := in_tbl 355 (by decide +kernel)
theorem ml_Law_27 : Cond.methodLink "GuardedPoolLaw" 27 (mnm mi_Poo_touch) ∈ lw_g := in_tbl 359 (by decide +kernel)
theorem ml_Poo_66 : Cond.methodLink "GuardedPool" 66 (mnm mi_Sta_useNow) ∈ lw_g := in_tbl 363 (by decide +kernel)
theorem ml_Sta_121 : Cond.methodLink "GuardedPool$State" 121 (mnm mi_Sta_ageOf) ∈ lw_g := in_tbl 367 (by decide +kernel)
theorem ml_Law_32 : Cond.methodLink "GuardedPoolLaw" 32 (mnm mi_Poo_live) ∈ lw_g := in_tbl 371 (by decide +kernel)
theorem ml_Poo_69 : Cond.methodLink "GuardedPool" 69 (mnm mi_Sta_makeAlive) ∈ lw_g := in_tbl 375 (by decide +kernel)
theorem ml_Sta_124 : Cond.methodLink "GuardedPool$State" 124 (mnm mi_Sta_blocksOf) ∈ lw_g := in_tbl 379 (by decide +kernel)
theorem ml_Law_37 : Cond.methodLink "GuardedPoolLaw" 37 (mnm mi_Poo_setLimit) ∈ lw_g := in_tbl 383 (by decide +kernel)
theorem ml_Poo_73 : Cond.methodLink "GuardedPool" 73 (mnm mi_Sta_changeLimit) ∈ lw_g := in_tbl 387 (by decide +kernel)
theorem ml_Law_41 : Cond.methodLink "GuardedPoolLaw" 41 (mnm mi_Poo_setPatience) ∈ lw_g := in_tbl 391 (by decide +kernel)
theorem ml_Poo_76 : Cond.methodLink "GuardedPool" 76 (mnm mi_Sta_changePatience) ∈ lw_g := in_tbl 395 (by decide +kernel)
theorem ml_Law_45 : Cond.methodLink "GuardedPoolLaw" 45 (mnm mi_Poo_pass) ∈ lw_g := in_tbl 399 (by decide +kernel)
theorem ml_Poo_79 : Cond.methodLink "GuardedPool" 79 (mnm mi_Sta_advance) ∈ lw_g := in_tbl 403 (by decide +kernel)
theorem ml_Sta_130 : Cond.methodLink "GuardedPool$State" 130 (mnm mi_Sta_leaks) ∈ lw_g := in_tbl 407 (by decide +kernel)
theorem ml_Sta_189 : Cond.methodLink "GuardedPool$State" 189 (mnm mi_Sta_leaksOf) ∈ lw_g := in_tbl 411 (by decide +kernel)
theorem ml_Sta_134 : Cond.methodLink "GuardedPool$State" 134 (mnm mi_Sta_isLeak) ∈ lw_g := in_tbl 415 (by decide +kernel)
theorem ml_Law_49 : Cond.methodLink "GuardedPoolLaw" 49 (mnm mi_Poo_sweep) ∈ lw_g := in_tbl 419 (by decide +kernel)
theorem ml_Poo_82 : Cond.methodLink "GuardedPool" 82 (mnm mi_Sta_takeLeaksBack) ∈ lw_g := in_tbl 423 (by decide +kernel)
theorem ml_Law_54 : Cond.methodLink "GuardedPoolLaw" 54 (mnm mi_Poo_type) ∈ lw_g := in_tbl 427 (by decide +kernel)
theorem ml_Poo_86 : Cond.methodLink "GuardedPool" 86 (mnm mi_Txt_append) ∈ lw_g := in_tbl 431 (by decide +kernel)
theorem ml_Law_59 : Cond.methodLink "GuardedPoolLaw" 59 (mnm mi_Poo_clearText) ∈ lw_g := in_tbl 435 (by decide +kernel)
theorem ml_Poo_90 : Cond.methodLink "GuardedPool" 90 (mnm mi_Txt_drop) ∈ lw_g := in_tbl 439 (by decide +kernel)
theorem ml_Law_63 : Cond.methodLink "GuardedPoolLaw" 63 (mnm mi_Poo_perform) ∈ lw_g := in_tbl 443 (by decide +kernel)
theorem ml_Poo_93 : Cond.methodLink "GuardedPool" 93 (mnm mi_Txt_read) ∈ lw_g := in_tbl 447 (by decide +kernel)
theorem ml_Txt_36 : Cond.methodLink "GuardedPool$Text" 36 (mnm mi_Txt_readCommand) ∈ lw_g := in_tbl 451 (by decide +kernel)
theorem ml_Txt_44 : Cond.methodLink "GuardedPool$Text" 44 (mnm mi_Txt_signHere) ∈ lw_g := in_tbl 455 (by decide +kernel)
theorem ml_Txt_51 : Cond.methodLink "GuardedPool$Text" 51 (mnm mi_Txt_readTwoNumbers) ∈ lw_g := in_tbl 459 (by decide +kernel)
theorem ml_Txt_55 : Cond.methodLink "GuardedPool$Text" 55 (mnm mi_Txt_readNumber) ∈ lw_g := in_tbl 463 (by decide +kernel)
theorem ml_Txt_65 : Cond.methodLink "GuardedPool$Text" 65 (mnm mi_Txt_digitHere) ∈ lw_g := in_tbl 467 (by decide +kernel)
theorem ml_Txt_40 : Cond.methodLink "GuardedPool$Text" 40 (mnm mi_Txt_readSign) ∈ lw_g := in_tbl 471 (by decide +kernel)
theorem ml_Poo_96 : Cond.methodLink "GuardedPool" 96 (mnm mi_Txt_commandCount) ∈ lw_g := in_tbl 475 (by decide +kernel)
theorem ml_Poo_99 : Cond.methodLink "GuardedPool" 99 (mnm mi_Txt_commandAt) ∈ lw_g := in_tbl 479 (by decide +kernel)
theorem ml_Poo_103 : Cond.methodLink "GuardedPool" 103 (mnm mi_Poo_answerTo) ∈ lw_g := in_tbl 483 (by decide +kernel)
theorem ml_Poo_107 : Cond.methodLink "GuardedPool" 107 (mnm mi_Poo_isError) ∈ lw_g := in_tbl 487 (by decide +kernel)
theorem ml_Poo_111 : Cond.methodLink "GuardedPool" 111 (mnm mi_Poo_noteStop) ∈ lw_g := in_tbl 490 (by decide +kernel)
theorem ml_Law_67 : Cond.methodLink "GuardedPoolLaw" 67 (mnm mi_Poo_stopped) ∈ lw_g := in_tbl 494 (by decide +kernel)
theorem ml_Law_71 : Cond.methodLink "GuardedPoolLaw" 71 (mnm mi_Poo_undo) ∈ lw_g := in_tbl 498 (by decide +kernel)
theorem ml_Poo_126 : Cond.methodLink "GuardedPool" 126 (mnm mi_His_takeLatest) ∈ lw_g := in_tbl 502 (by decide +kernel)
theorem ml_Law_75 : Cond.methodLink "GuardedPoolLaw" 75 (mnm mi_Poo_keep) ∈ lw_g := in_tbl 506 (by decide +kernel)
theorem ml_Poo_133 : Cond.methodLink "GuardedPool" 133 (mnm mi_Sta_ownedBlocks) ∈ lw_g := in_tbl 510 (by decide +kernel)
theorem ml_Law_79 : Cond.methodLink "GuardedPoolLaw" 79 (mnm mi_Poo_restore) ∈ lw_g := in_tbl 514 (by decide +kernel)
theorem ml_Law_83 : Cond.methodLink "GuardedPoolLaw" 83 (mnm mi_Poo_block) ∈ lw_g := in_tbl 518 (by decide +kernel)
theorem ml_Poo_136 : Cond.methodLink "GuardedPool" 136 (mnm mi_Sta_tellBlock) ∈ lw_g := in_tbl 522 (by decide +kernel)
theorem ml_Law_87 : Cond.methodLink "GuardedPoolLaw" 87 (mnm mi_Poo_word) ∈ lw_g := in_tbl 526 (by decide +kernel)
theorem ml_Poo_139 : Cond.methodLink "GuardedPool" 139 (mnm mi_Sta_tellWord) ∈ lw_g := in_tbl 530 (by decide +kernel)
theorem ml_Law_91 : Cond.methodLink "GuardedPoolLaw" 91 (mnm mi_Poo_task) ∈ lw_g := in_tbl 534 (by decide +kernel)
theorem ml_Poo_142 : Cond.methodLink "GuardedPool" 142 (mnm mi_Sta_tellTask) ∈ lw_g := in_tbl 538 (by decide +kernel)
theorem ml_Sta_186 : Cond.methodLink "GuardedPool$State" 186 (mnm mi_Sta_askedBy) ∈ lw_g := in_tbl 542 (by decide +kernel)
theorem ml_Law_95 : Cond.methodLink "GuardedPoolLaw" 95 (mnm mi_Poo_reason) ∈ lw_g := in_tbl 546 (by decide +kernel)
theorem ml_Law_99 : Cond.methodLink "GuardedPoolLaw" 99 (mnm mi_Poo_greatest) ∈ lw_g := in_tbl 550 (by decide +kernel)
theorem ml_Poo_145 : Cond.methodLink "GuardedPool" 145 (mnm mi_Sta_greatestRequest) ∈ lw_g := in_tbl 554 (by decide +kernel)
theorem ml_Law_103 : Cond.methodLink "GuardedPoolLaw" 103 (mnm mi_Poo_leak) ∈ lw_g := in_tbl 558 (by decide +kernel)
theorem ml_Poo_148 : Cond.methodLink "GuardedPool" 148 (mnm mi_Sta_leakOfRank) ∈ lw_g := in_tbl 562 (by decide +kernel)
theorem ml_Sta_205 : Cond.methodLink "GuardedPool$State" 205 (mnm mi_Sta_leaksAheadOf) ∈ lw_g := in_tbl 566 (by decide +kernel)
theorem ml_Law_107 : Cond.methodLink "GuardedPoolLaw" 107 (mnm mi_Poo_refused) ∈ lw_g := in_tbl 570 (by decide +kernel)
theorem ml_Law_111 : Cond.methodLink "GuardedPoolLaw" 111 (mnm mi_Poo_size) ∈ lw_g := in_tbl 574 (by decide +kernel)
theorem ml_Poo_151 : Cond.methodLink "GuardedPool" 151 (mnm mi_Sta_tellSize) ∈ lw_g := in_tbl 578 (by decide +kernel)
theorem ml_Sta_192 : Cond.methodLink "GuardedPool$State" 192 (mnm mi_Sta_blocksOfSize) ∈ lw_g := in_tbl 582 (by decide +kernel)
theorem ml_Law_115 : Cond.methodLink "GuardedPoolLaw" 115 (mnm mi_Poo_count) ∈ lw_g := in_tbl 586 (by decide +kernel)
theorem ml_Poo_154 : Cond.methodLink "GuardedPool" 154 (mnm mi_His_length) ∈ lw_g := in_tbl 590 (by decide +kernel)
theorem ml_Poo_157 : Cond.methodLink "GuardedPool" 157 (mnm mi_Txt_length) ∈ lw_g := in_tbl 594 (by decide +kernel)
theorem ml_Poo_158 : Cond.methodLink "GuardedPool" 158 (mnm mi_Sta_tellCount) ∈ lw_g := in_tbl 598 (by decide +kernel)
theorem ml_Sta_196 : Cond.methodLink "GuardedPool$State" 196 (mnm mi_Sta_ownedBlocks) ∈ lw_g := in_tbl 602 (by decide +kernel)
theorem ml_Sta_199 : Cond.methodLink "GuardedPool$State" 199 (mnm mi_Sta_ownedWords) ∈ lw_g := in_tbl 603 (by decide +kernel)
theorem ml_Sta_202 : Cond.methodLink "GuardedPool$State" 202 (mnm mi_Sta_askedWords) ∈ lw_g := in_tbl 607 (by decide +kernel)
theorem ml_Law_12 : Cond.methodLink "GuardedPoolLaw" 12 (mnm mi_Mod_init) ∈ lw_g := in_tbl 613 (by decide +kernel)
theorem ml_Mod_1 : Cond.methodLink "GuardedPoolModel" 1 Lib.objectInit ∈ lw_g := in_tbl 616 (by decide +kernel)
theorem ml_Law_17 : Cond.methodLink "GuardedPoolLaw" 17 (mnm mi_Mod_ask) ∈ lw_g := in_tbl 669 (by decide +kernel)
theorem ml_Mod_87 : Cond.methodLink "GuardedPoolModel" 87 (mnm mi_Mod_askFault) ∈ lw_g := in_tbl 673 (by decide +kernel)
theorem ml_Mod_71 : Cond.methodLink "GuardedPoolModel" 71 (mnm mi_Mod_isTask) ∈ lw_g := in_tbl 677 (by decide +kernel)
theorem ml_Mod_35 : Cond.methodLink "GuardedPoolModel" 35 (mnm mi_Mod_in) ∈ lw_g := in_tbl 680 (by decide +kernel)
theorem ml_Mod_74 : Cond.methodLink "GuardedPoolModel" 74 (mnm mi_Mod_why) ∈ lw_g := in_tbl 683 (by decide +kernel)
theorem ml_Mod_53 : Cond.methodLink "GuardedPoolModel" 53 (mnm mi_Mod_sizeFor) ∈ lw_g := in_tbl 687 (by decide +kernel)
theorem ml_Mod_56 : Cond.methodLink "GuardedPoolModel" 56 (mnm mi_Mod_wordsOf) ∈ lw_g := in_tbl 690 (by decide +kernel)
theorem ml_Mod_42 : Cond.methodLink "GuardedPoolModel" 42 (mnm mi_Mod_isOwned) ∈ lw_g := in_tbl 694 (by decide +kernel)
theorem ml_Mod_59 : Cond.methodLink "GuardedPoolModel" 59 (mnm mi_Mod_lowestFree) ∈ lw_g := in_tbl 698 (by decide +kernel)
theorem ml_Mod_50 : Cond.methodLink "GuardedPoolModel" 50 (mnm mi_Mod_isFree) ∈ lw_g := in_tbl 702 (by decide +kernel)
theorem ml_Mod_90 : Cond.methodLink "GuardedPoolModel" 90 (mnm mi_Mod_know) ∈ lw_g := in_tbl 706 (by decide +kernel)
theorem ml_Mod_93 : Cond.methodLink "GuardedPoolModel" 93 (mnm mi_Mod_asks) ∈ lw_g := in_tbl 710 (by decide +kernel)
theorem ml_Mod_62 : Cond.methodLink "GuardedPoolModel" 62 (mnm mi_Mod_taken) ∈ lw_g := in_tbl 714 (by decide +kernel)
theorem ml_Law_21 : Cond.methodLink "GuardedPoolLaw" 21 (mnm mi_Mod_giveBack) ∈ lw_g := in_tbl 718 (by decide +kernel)
theorem ml_Mod_96 : Cond.methodLink "GuardedPoolModel" 96 (mnm mi_Mod_backFault) ∈ lw_g := in_tbl 722 (by decide +kernel)
theorem ml_Mod_78 : Cond.methodLink "GuardedPoolModel" 78 (mnm mi_Mod_beginOf) ∈ lw_g := in_tbl 726 (by decide +kernel)
theorem ml_Mod_84 : Cond.methodLink "GuardedPoolModel" 84 (mnm mi_Mod_frees) ∈ lw_g := in_tbl 730 (by decide +kernel)
theorem ml_Mod_65 : Cond.methodLink "GuardedPoolModel" 65 (mnm mi_Mod_broken) ∈ lw_g := in_tbl 734 (by decide +kernel)
theorem ml_Law_26 : Cond.methodLink "GuardedPoolLaw" 26 (mnm mi_Mod_write) ∈ lw_g := in_tbl 738 (by decide +kernel)
theorem ml_Mod_46 : Cond.methodLink "GuardedPoolModel" 46 (mnm mi_Mod_beginAt) ∈ lw_g := in_tbl 742 (by decide +kernel)
theorem ml_Mod_99 : Cond.methodLink "GuardedPoolModel" 99 (mnm mi_Mod_isGuard) ∈ lw_g := in_tbl 746 (by decide +kernel)
theorem ml_Law_31 : Cond.methodLink "GuardedPoolLaw" 31 (mnm mi_Mod_touch) ∈ lw_g := in_tbl 750 (by decide +kernel)
theorem ml_Mod_102 : Cond.methodLink "GuardedPoolModel" 102 (mnm mi_Mod_puts) ∈ lw_g := in_tbl 754 (by decide +kernel)
theorem ml_Law_36 : Cond.methodLink "GuardedPoolLaw" 36 (mnm mi_Mod_live) ∈ lw_g := in_tbl 758 (by decide +kernel)
theorem ml_Mod_105 : Cond.methodLink "GuardedPoolModel" 105 (mnm mi_Mod_blocksOf) ∈ lw_g := in_tbl 762 (by decide +kernel)
theorem ml_Law_40 : Cond.methodLink "GuardedPoolLaw" 40 (mnm mi_Mod_setLimit) ∈ lw_g := in_tbl 766 (by decide +kernel)
theorem ml_Law_44 : Cond.methodLink "GuardedPoolLaw" 44 (mnm mi_Mod_setPatience) ∈ lw_g := in_tbl 770 (by decide +kernel)
theorem ml_Law_48 : Cond.methodLink "GuardedPoolLaw" 48 (mnm mi_Mod_pass) ∈ lw_g := in_tbl 774 (by decide +kernel)
theorem ml_Mod_108 : Cond.methodLink "GuardedPoolModel" 108 (mnm mi_Mod_passFault) ∈ lw_g := in_tbl 778 (by decide +kernel)
theorem ml_Mod_111 : Cond.methodLink "GuardedPoolModel" 111 (mnm mi_Mod_passes) ∈ lw_g := in_tbl 782 (by decide +kernel)
theorem ml_Mod_81 : Cond.methodLink "GuardedPoolModel" 81 (mnm mi_Mod_leaks) ∈ lw_g := in_tbl 786 (by decide +kernel)
theorem ml_Mod_68 : Cond.methodLink "GuardedPoolModel" 68 (mnm mi_Mod_isLeak) ∈ lw_g := in_tbl 790 (by decide +kernel)
theorem ml_Law_53 : Cond.methodLink "GuardedPoolLaw" 53 (mnm mi_Mod_sweep) ∈ lw_g := in_tbl 794 (by decide +kernel)
theorem ml_Mod_114 : Cond.methodLink "GuardedPoolModel" 114 (mnm mi_Mod_sweeps) ∈ lw_g := in_tbl 798 (by decide +kernel)
theorem ml_Law_58 : Cond.methodLink "GuardedPoolLaw" 58 (mnm mi_Mod_type) ∈ lw_g := in_tbl 802 (by decide +kernel)
theorem ml_Law_62 : Cond.methodLink "GuardedPoolLaw" 62 (mnm mi_Mod_clearText) ∈ lw_g := in_tbl 806 (by decide +kernel)
theorem ml_Law_66 : Cond.methodLink "GuardedPoolLaw" 66 (mnm mi_Mod_perform) ∈ lw_g := in_tbl 810 (by decide +kernel)
theorem ml_Mod_152 : Cond.methodLink "GuardedPoolModel" 152 (mnm mi_Mod_go) ∈ lw_g := in_tbl 814 (by decide +kernel)
theorem ml_Mod_146 : Cond.methodLink "GuardedPoolModel" 146 (mnm mi_Mod_read) ∈ lw_g := in_tbl 818 (by decide +kernel)
theorem ml_Mod_134 : Cond.methodLink "GuardedPoolModel" 134 (mnm mi_Mod_number) ∈ lw_g := in_tbl 822 (by decide +kernel)
theorem ml_Mod_128 : Cond.methodLink "GuardedPoolModel" 128 (mnm mi_Mod_sign) ∈ lw_g := in_tbl 826 (by decide +kernel)
theorem ml_Mod_149 : Cond.methodLink "GuardedPoolModel" 149 (mnm mi_Mod_does) ∈ lw_g := in_tbl 830 (by decide +kernel)
theorem ml_Mod_156 : Cond.methodLink "GuardedPoolModel" 156 (mnm mi_Mod_putAside) ∈ lw_g := in_tbl 834 (by decide +kernel)
theorem ml_Mod_159 : Cond.methodLink "GuardedPoolModel" 159 (mnm mi_Mod_putBack) ∈ lw_g := in_tbl 838 (by decide +kernel)
theorem ml_Law_70 : Cond.methodLink "GuardedPoolLaw" 70 (mnm mi_Mod_stopped) ∈ lw_g := in_tbl 842 (by decide +kernel)
theorem ml_Law_74 : Cond.methodLink "GuardedPoolLaw" 74 (mnm mi_Mod_undo) ∈ lw_g := in_tbl 846 (by decide +kernel)
theorem ml_Law_78 : Cond.methodLink "GuardedPoolLaw" 78 (mnm mi_Mod_keep) ∈ lw_g := in_tbl 850 (by decide +kernel)
theorem ml_Mod_165 : Cond.methodLink "GuardedPoolModel" 165 (mnm mi_Mod_owned) ∈ lw_g := in_tbl 854 (by decide +kernel)
theorem ml_Law_82 : Cond.methodLink "GuardedPoolLaw" 82 (mnm mi_Mod_restore) ∈ lw_g := in_tbl 858 (by decide +kernel)
theorem ml_Law_86 : Cond.methodLink "GuardedPoolLaw" 86 (mnm mi_Mod_block) ∈ lw_g := in_tbl 862 (by decide +kernel)
theorem ml_Mod_168 : Cond.methodLink "GuardedPoolModel" 168 (mnm mi_Mod_sizeNumber) ∈ lw_g := in_tbl 866 (by decide +kernel)
theorem ml_Law_90 : Cond.methodLink "GuardedPoolLaw" 90 (mnm mi_Mod_word) ∈ lw_g := in_tbl 869 (by decide +kernel)
theorem ml_Law_94 : Cond.methodLink "GuardedPoolLaw" 94 (mnm mi_Mod_task) ∈ lw_g := in_tbl 873 (by decide +kernel)
theorem ml_Mod_171 : Cond.methodLink "GuardedPoolModel" 171 (mnm mi_Mod_asked) ∈ lw_g := in_tbl 877 (by decide +kernel)
theorem ml_Law_98 : Cond.methodLink "GuardedPoolLaw" 98 (mnm mi_Mod_reason) ∈ lw_g := in_tbl 881 (by decide +kernel)
theorem ml_Law_102 : Cond.methodLink "GuardedPoolLaw" 102 (mnm mi_Mod_greatest) ∈ lw_g := in_tbl 885 (by decide +kernel)
theorem ml_Law_106 : Cond.methodLink "GuardedPoolLaw" 106 (mnm mi_Mod_leak) ∈ lw_g := in_tbl 889 (by decide +kernel)
theorem ml_Mod_174 : Cond.methodLink "GuardedPoolModel" 174 (mnm mi_Mod_ahead) ∈ lw_g := in_tbl 893 (by decide +kernel)
theorem ml_Law_110 : Cond.methodLink "GuardedPoolLaw" 110 (mnm mi_Mod_refused) ∈ lw_g := in_tbl 897 (by decide +kernel)
theorem ml_Law_114 : Cond.methodLink "GuardedPoolLaw" 114 (mnm mi_Mod_size) ∈ lw_g := in_tbl 901 (by decide +kernel)
theorem ml_Law_118 : Cond.methodLink "GuardedPoolLaw" 118 (mnm mi_Mod_count) ∈ lw_g := in_tbl 905 (by decide +kernel)
theorem ml_Mod_177 : Cond.methodLink "GuardedPoolModel" 177 (mnm mi_Mod_freeWords) ∈ lw_g := in_tbl 909 (by decide +kernel)
theorem fl_Blk_9 : Cond.fieldLink "GuardedPool$Block" 9 (cnm 0) (Tcl 0 0).2.1 (Tcl 0 0).2.2.1 ∈ lw_g := in_tbl 32 (by decide +kernel)
theorem fl_Sta_98 : Cond.fieldLink "GuardedPool$State" 98 (cnm 0) (Tcl 0 0).2.1 (Tcl 0 0).2.2.1 ∈ lw_g := in_tbl 33 (by decide +kernel)
theorem fl_Blk_15 : Cond.fieldLink "GuardedPool$Block" 15 (cnm 0) (Tcl 0 1).2.1 (Tcl 0 1).2.2.1 ∈ lw_g := in_tbl 34 (by decide +kernel)
theorem fl_Sta_151 : Cond.fieldLink "GuardedPool$State" 151 (cnm 0) (Tcl 0 1).2.1 (Tcl 0 1).2.2.1 ∈ lw_g := in_tbl 35 (by decide +kernel)
theorem fl_Blk_18 : Cond.fieldLink "GuardedPool$Block" 18 (cnm 0) (Tcl 0 2).2.1 (Tcl 0 2).2.2.1 ∈ lw_g := in_tbl 36 (by decide +kernel)
theorem fl_Sta_75 : Cond.fieldLink "GuardedPool$State" 75 (cnm 0) (Tcl 0 2).2.1 (Tcl 0 2).2.2.1 ∈ lw_g := in_tbl 37 (by decide +kernel)
theorem fl_Blk_21 : Cond.fieldLink "GuardedPool$Block" 21 (cnm 0) (Tcl 0 3).2.1 (Tcl 0 3).2.2.1 ∈ lw_g := in_tbl 38 (by decide +kernel)
theorem fl_Sta_78 : Cond.fieldLink "GuardedPool$State" 78 (cnm 0) (Tcl 0 3).2.1 (Tcl 0 3).2.2.1 ∈ lw_g := in_tbl 39 (by decide +kernel)
theorem fl_Blk_24 : Cond.fieldLink "GuardedPool$Block" 24 (cnm 0) (Tcl 0 4).2.1 (Tcl 0 4).2.2.1 ∈ lw_g := in_tbl 40 (by decide +kernel)
theorem fl_Sta_81 : Cond.fieldLink "GuardedPool$State" 81 (cnm 0) (Tcl 0 4).2.1 (Tcl 0 4).2.2.1 ∈ lw_g := in_tbl 41 (by decide +kernel)
theorem fl_Blk_27 : Cond.fieldLink "GuardedPool$Block" 27 (cnm 0) (Tcl 0 5).2.1 (Tcl 0 5).2.2.1 ∈ lw_g := in_tbl 42 (by decide +kernel)
theorem fl_Sta_84 : Cond.fieldLink "GuardedPool$State" 84 (cnm 0) (Tcl 0 5).2.1 (Tcl 0 5).2.2.1 ∈ lw_g := in_tbl 43 (by decide +kernel)
theorem fl_Tsk_9 : Cond.fieldLink "GuardedPool$Task" 9 (cnm 4) (Tcl 4 0).2.1 (Tcl 4 0).2.2.1 ∈ lw_g := in_tbl 64 (by decide +kernel)
theorem fl_Sta_104 : Cond.fieldLink "GuardedPool$State" 104 (cnm 4) (Tcl 4 0).2.1 (Tcl 4 0).2.2.1 ∈ lw_g := in_tbl 65 (by decide +kernel)
theorem fl_Tsk_15 : Cond.fieldLink "GuardedPool$Task" 15 (cnm 4) (Tcl 4 1).2.1 (Tcl 4 1).2.2.1 ∈ lw_g := in_tbl 66 (by decide +kernel)
theorem fl_Sta_127 : Cond.fieldLink "GuardedPool$State" 127 (cnm 4) (Tcl 4 1).2.1 (Tcl 4 1).2.2.1 ∈ lw_g := in_tbl 67 (by decide +kernel)
theorem fl_Tsk_19 : Cond.fieldLink "GuardedPool$Task" 19 (cnm 4) (Tcl 4 2).2.1 (Tcl 4 2).2.2.1 ∈ lw_g := in_tbl 68 (by decide +kernel)
theorem fl_Sta_115 : Cond.fieldLink "GuardedPool$State" 115 (cnm 4) (Tcl 4 2).2.1 (Tcl 4 2).2.2.1 ∈ lw_g := in_tbl 69 (by decide +kernel)
theorem fl_Sta_11 : Cond.fieldLink "GuardedPool$State" 11 (cnm 3) (Tcl 3 0).2.1 (Tcl 3 0).2.2.1 ∈ lw_g := in_tbl 78 (by decide +kernel)
theorem fl_Sta_20 : Cond.fieldLink "GuardedPool$State" 20 (cnm 3) (Tcl 3 1).2.1 (Tcl 3 1).2.2.1 ∈ lw_g := in_tbl 79 (by decide +kernel)
theorem fl_Sta_26 : Cond.fieldLink "GuardedPool$State" 26 (cnm 3) (Tcl 3 2).2.1 (Tcl 3 2).2.2.1 ∈ lw_g := in_tbl 80 (by decide +kernel)
theorem fl_Sta_48 : Cond.fieldLink "GuardedPool$State" 48 (cnm 3) (Tcl 3 3).2.1 (Tcl 3 3).2.2.1 ∈ lw_g := in_tbl 81 (by decide +kernel)
theorem fl_Sta_31 : Cond.fieldLink "GuardedPool$State" 31 (cnm 3) (Tcl 3 4).2.1 (Tcl 3 4).2.2.1 ∈ lw_g := in_tbl 82 (by decide +kernel)
theorem fl_Sta_51 : Cond.fieldLink "GuardedPool$State" 51 (cnm 3) (Tcl 3 5).2.1 (Tcl 3 5).2.2.1 ∈ lw_g := in_tbl 83 (by decide +kernel)
theorem fl_Sta_54 : Cond.fieldLink "GuardedPool$State" 54 (cnm 3) (Tcl 3 6).2.1 (Tcl 3 6).2.2.1 ∈ lw_g := in_tbl 84 (by decide +kernel)
theorem fl_Sta_57 : Cond.fieldLink "GuardedPool$State" 57 (cnm 3) (Tcl 3 7).2.1 (Tcl 3 7).2.2.1 ∈ lw_g := in_tbl 85 (by decide +kernel)
theorem fl_Sta_60 : Cond.fieldLink "GuardedPool$State" 60 (cnm 3) (Tcl 3 8).2.1 (Tcl 3 8).2.2.1 ∈ lw_g := in_tbl 86 (by decide +kernel)
theorem fl_His_11 : Cond.fieldLink "GuardedPool$History" 11 (cnm 2) (Tcl 2 0).2.1 (Tcl 2 0).2.2.1 ∈ lw_g := in_tbl 115 (by decide +kernel)
theorem fl_His_22 : Cond.fieldLink "GuardedPool$History" 22 (cnm 2) (Tcl 2 1).2.1 (Tcl 2 1).2.2.1 ∈ lw_g := in_tbl 116 (by decide +kernel)
theorem fl_His_18 : Cond.fieldLink "GuardedPool$History" 18 (cnm 2) (Tcl 2 2).2.1 (Tcl 2 2).2.2.1 ∈ lw_g := in_tbl 117 (by decide +kernel)
theorem fl_Txt_48 : Cond.fieldLink "GuardedPool$Text" 48 (cnm 1) (Tcl 1 0).2.1 (Tcl 1 0).2.2.1 ∈ lw_g := in_tbl 138 (by decide +kernel)
theorem fl_Poo_164 : Cond.fieldLink "GuardedPool" 164 (cnm 1) (Tcl 1 0).2.1 (Tcl 1 0).2.2.1 ∈ lw_g := in_tbl 139 (by decide +kernel)
theorem fl_Txt_59 : Cond.fieldLink "GuardedPool$Text" 59 (cnm 1) (Tcl 1 1).2.1 (Tcl 1 1).2.2.1 ∈ lw_g := in_tbl 140 (by decide +kernel)
theorem fl_Poo_169 : Cond.fieldLink "GuardedPool" 169 (cnm 1) (Tcl 1 1).2.1 (Tcl 1 1).2.2.1 ∈ lw_g := in_tbl 141 (by decide +kernel)
theorem fl_Txt_62 : Cond.fieldLink "GuardedPool$Text" 62 (cnm 1) (Tcl 1 2).2.1 (Tcl 1 2).2.2.1 ∈ lw_g := in_tbl 142 (by decide +kernel)
theorem fl_Poo_172 : Cond.fieldLink "GuardedPool" 172 (cnm 1) (Tcl 1 2).2.1 (Tcl 1 2).2.2.1 ∈ lw_g := in_tbl 143 (by decide +kernel)
theorem fl_Txt_9 : Cond.fieldLink "GuardedPool$Text" 9 (cnm 5) (Tcl 5 0).2.1 (Tcl 5 0).2.2.1 ∈ lw_g := in_tbl 152 (by decide +kernel)
theorem fl_Txt_22 : Cond.fieldLink "GuardedPool$Text" 22 (cnm 5) (Tcl 5 1).2.1 (Tcl 5 1).2.2.1 ∈ lw_g := in_tbl 153 (by decide +kernel)
theorem fl_Txt_17 : Cond.fieldLink "GuardedPool$Text" 17 (cnm 5) (Tcl 5 2).2.1 (Tcl 5 2).2.2.1 ∈ lw_g := in_tbl 154 (by decide +kernel)
theorem fl_Txt_26 : Cond.fieldLink "GuardedPool$Text" 26 (cnm 5) (Tcl 5 3).2.1 (Tcl 5 3).2.2.1 ∈ lw_g := in_tbl 155 (by decide +kernel)
theorem fl_Txt_29 : Cond.fieldLink "GuardedPool$Text" 29 (cnm 5) (Tcl 5 4).2.1 (Tcl 5 4).2.2.1 ∈ lw_g := in_tbl 156 (by decide +kernel)
theorem fl_Txt_32 : Cond.fieldLink "GuardedPool$Text" 32 (cnm 5) (Tcl 5 5).2.1 (Tcl 5 5).2.2.1 ∈ lw_g := in_tbl 157 (by decide +kernel)
theorem fl_Poo_10 : Cond.fieldLink "GuardedPool" 10 (cnm 6) (Tcl 6 0).2.1 (Tcl 6 0).2.2.1 ∈ lw_g := in_tbl 171 (by decide +kernel)
theorem fl_Poo_16 : Cond.fieldLink "GuardedPool" 16 (cnm 6) (Tcl 6 1).2.1 (Tcl 6 1).2.2.1 ∈ lw_g := in_tbl 172 (by decide +kernel)
theorem fl_Poo_19 : Cond.fieldLink "GuardedPool" 19 (cnm 6) (Tcl 6 2).2.1 (Tcl 6 2).2.2.1 ∈ lw_g := in_tbl 173 (by decide +kernel)
theorem fl_Poo_130 : Cond.fieldLink "GuardedPool" 130 (cnm 6) (Tcl 6 3).2.1 (Tcl 6 3).2.2.1 ∈ lw_g := in_tbl 174 (by decide +kernel)
theorem fl_Poo_25 : Cond.fieldLink "GuardedPool" 25 (cnm 6) (Tcl 6 4).2.1 (Tcl 6 4).2.2.1 ∈ lw_g := in_tbl 175 (by decide +kernel)
theorem fl_Poo_32 : Cond.fieldLink "GuardedPool" 32 (cnm 6) (Tcl 6 5).2.1 (Tcl 6 5).2.2.1 ∈ lw_g := in_tbl 176 (by decide +kernel)
theorem fl_Poo_36 : Cond.fieldLink "GuardedPool" 36 (cnm 6) (Tcl 6 6).2.1 (Tcl 6 6).2.2.1 ∈ lw_g := in_tbl 177 (by decide +kernel)
theorem fl_Poo_115 : Cond.fieldLink "GuardedPool" 115 (cnm 6) (Tcl 6 7).2.1 (Tcl 6 7).2.2.1 ∈ lw_g := in_tbl 178 (by decide +kernel)
theorem fl_Poo_119 : Cond.fieldLink "GuardedPool" 119 (cnm 6) (Tcl 6 8).2.1 (Tcl 6 8).2.2.1 ∈ lw_g := in_tbl 179 (by decide +kernel)
theorem fl_Poo_123 : Cond.fieldLink "GuardedPool" 123 (cnm 6) (Tcl 6 9).2.1 (Tcl 6 9).2.2.1 ∈ lw_g := in_tbl 180 (by decide +kernel)
theorem fl_Mod_7 : Cond.fieldLink "GuardedPoolModel" 7 (cnm 7) (Tcl 7 0).2.1 (Tcl 7 0).2.2.1 ∈ lw_g := in_tbl 617 (by decide +kernel)
theorem fl_Mod_13 : Cond.fieldLink "GuardedPoolModel" 13 (cnm 7) (Tcl 7 1).2.1 (Tcl 7 1).2.2.1 ∈ lw_g := in_tbl 618 (by decide +kernel)
theorem fl_Mod_16 : Cond.fieldLink "GuardedPoolModel" 16 (cnm 7) (Tcl 7 2).2.1 (Tcl 7 2).2.2.1 ∈ lw_g := in_tbl 619 (by decide +kernel)
theorem fl_Mod_39 : Cond.fieldLink "GuardedPoolModel" 39 (cnm 7) (Tcl 7 3).2.1 (Tcl 7 3).2.2.1 ∈ lw_g := in_tbl 620 (by decide +kernel)
theorem fl_Mod_19 : Cond.fieldLink "GuardedPoolModel" 19 (cnm 7) (Tcl 7 4).2.1 (Tcl 7 4).2.2.1 ∈ lw_g := in_tbl 621 (by decide +kernel)
theorem fl_Mod_162 : Cond.fieldLink "GuardedPoolModel" 162 (cnm 7) (Tcl 7 5).2.1 (Tcl 7 5).2.2.1 ∈ lw_g := in_tbl 622 (by decide +kernel)
theorem fl_Mod_22 : Cond.fieldLink "GuardedPoolModel" 22 (cnm 7) (Tcl 7 6).2.1 (Tcl 7 6).2.2.1 ∈ lw_g := in_tbl 623 (by decide +kernel)
theorem fl_Mod_25 : Cond.fieldLink "GuardedPoolModel" 25 (cnm 7) (Tcl 7 7).2.1 (Tcl 7 7).2.2.1 ∈ lw_g := in_tbl 624 (by decide +kernel)
theorem fl_Mod_118 : Cond.fieldLink "GuardedPoolModel" 118 (cnm 7) (Tcl 7 8).2.1 (Tcl 7 8).2.2.1 ∈ lw_g := in_tbl 625 (by decide +kernel)
theorem fl_Mod_28 : Cond.fieldLink "GuardedPoolModel" 28 (cnm 7) (Tcl 7 9).2.1 (Tcl 7 9).2.2.1 ∈ lw_g := in_tbl 626 (by decide +kernel)
theorem fl_Mod_32 : Cond.fieldLink "GuardedPoolModel" 32 (cnm 7) (Tcl 7 10).2.1 (Tcl 7 10).2.2.1 ∈ lw_g := in_tbl 627 (by decide +kernel)
theorem fl_Mod_121 : Cond.fieldLink "GuardedPoolModel" 121 (cnm 7) (Tcl 7 11).2.1 (Tcl 7 11).2.2.1 ∈ lw_g := in_tbl 628 (by decide +kernel)
theorem fl_Mod_124 : Cond.fieldLink "GuardedPoolModel" 124 (cnm 7) (Tcl 7 12).2.1 (Tcl 7 12).2.2.1 ∈ lw_g := in_tbl 629 (by decide +kernel)
theorem fl_Mod_131 : Cond.fieldLink "GuardedPoolModel" 131 (cnm 7) (Tcl 7 13).2.1 (Tcl 7 13).2.2.1 ∈ lw_g := in_tbl 630 (by decide +kernel)
theorem fl_Mod_137 : Cond.fieldLink "GuardedPoolModel" 137 (cnm 7) (Tcl 7 14).2.1 (Tcl 7 14).2.2.1 ∈ lw_g := in_tbl 631 (by decide +kernel)
theorem fl_Mod_140 : Cond.fieldLink "GuardedPoolModel" 140 (cnm 7) (Tcl 7 15).2.1 (Tcl 7 15).2.2.1 ∈ lw_g := in_tbl 632 (by decide +kernel)
theorem fl_Mod_143 : Cond.fieldLink "GuardedPoolModel" 143 (cnm 7) (Tcl 7 16).2.1 (Tcl 7 16).2.2.1 ∈ lw_g := in_tbl 633 (by decide +kernel)
theorem cl_Law_7 : Cond.classLink "GuardedPoolLaw" 7 (cnm 6) ∈ lw_g := in_tbl 11 (by decide +kernel)
theorem cl_Poo_7 : Cond.classLink "GuardedPool" 7 (cnm 3) ∈ lw_g := in_tbl 19 (by decide +kernel)
theorem cl_Sta_9 : Cond.classLink "GuardedPool$State" 9 (cnm 0) ∈ lw_g := in_tbl 25 (by decide +kernel)
theorem cl_Sta_24 : Cond.classLink "GuardedPool$State" 24 (cnm 4) ∈ lw_g := in_tbl 57 (by decide +kernel)
theorem cl_Poo_22 : Cond.classLink "GuardedPool" 22 (cnm 2) ∈ lw_g := in_tbl 106 (by decide +kernel)
theorem cl_His_9 : Cond.classLink "GuardedPool$History" 9 (cnm 3) ∈ lw_g := in_tbl 112 (by decide +kernel)
theorem cl_Poo_29 : Cond.classLink "GuardedPool" 29 (cnm 5) ∈ lw_g := in_tbl 125 (by decide +kernel)
theorem cl_Txt_15 : Cond.classLink "GuardedPool$Text" 15 (cnm 1) ∈ lw_g := in_tbl 131 (by decide +kernel)
theorem cl_Law_10 : Cond.classLink "GuardedPoolLaw" 10 (cnm 7) ∈ lw_g := in_tbl 611 (by decide +kernel)
theorem is_Poo : Cond.instantiable (cnm 6) (nfd 6) ∈ lw_g := in_tbl 12 (by decide +kernel)
theorem is_Sta : Cond.instantiable (cnm 3) (nfd 3) ∈ lw_g := in_tbl 20 (by decide +kernel)
theorem is_Blk : Cond.instantiable (cnm 0) (nfd 0) ∈ lw_g := in_tbl 27 (by decide +kernel)
theorem is_Tsk : Cond.instantiable (cnm 4) (nfd 4) ∈ lw_g := in_tbl 59 (by decide +kernel)
theorem is_His : Cond.instantiable (cnm 2) (nfd 2) ∈ lw_g := in_tbl 107 (by decide +kernel)
theorem is_Txt : Cond.instantiable (cnm 5) (nfd 5) ∈ lw_g := in_tbl 126 (by decide +kernel)
theorem is_Cmd : Cond.instantiable (cnm 1) (nfd 1) ∈ lw_g := in_tbl 133 (by decide +kernel)
theorem is_Mod : Cond.instantiable (cnm 7) (nfd 7) ∈ lw_g := in_tbl 612 (by decide +kernel)
theorem inst_obj : Cond.instanceMethod Lib.objectInit ∈ lw_g := in_tbl 17 (by decide +kernel)
theorem code_obj : Cond.code Lib.objectInit ⟨#[0xb1]⟩ 1 none ∈ lw_g := in_tbl 18 (by decide +kernel)
theorem ao_Blk : Cond.arrayOver (.object (cnm 0)) ∈ lw_tbl := in_raw 26 (by decide +kernel)
theorem ao_Tsk : Cond.arrayOver (.object (cnm 4)) ∈ lw_tbl := in_raw 58 (by decide +kernel)
theorem ac_int : Cond.arrayClass .int ∈ lw_g := in_tbl 77 (by decide +kernel)
theorem ao_Sta : Cond.arrayOver (.object (cnm 3)) ∈ lw_tbl := in_raw 113 (by decide +kernel)
theorem ao_Cmd : Cond.arrayOver (.object (cnm 1)) ∈ lw_tbl := in_raw 132 (by decide +kernel)
theorem ac_char : Cond.arrayClass .char ∈ lw_g := in_tbl 151 (by decide +kernel)
theorem stat_copy : Cond.static arraycopyName ∈ lw_g := in_tbl 215 (by decide +kernel)
theorem nat_copy : Cond.native arraycopyName ∈ lw_g := in_tbl 216 (by decide +kernel)
theorem stat_min : Cond.static Lib.Math.min.name ∈ lw_g := in_tbl 287 (by decide +kernel)
theorem code_min : Cond.code Lib.Math.min.name Lib.Math.min.code 2 (some .int) ∈ lw_g := in_tbl 288 (by decide +kernel)
end
section
/-! the world in plain words: objects by number, ints and references by object and slot; what a method does to them (SPW), its contract (MetC) -/
abbrev Vv : Type := Int ⊕ Option Int
abbrev vI (x : Int) : Vv := .inl x
abbrev vR (o : Int) : Vv := .inr (some o)
abbrev vN : Vv := .inr none
def rng (x : Int) : Prop := -2147483648 ≤ x ∧ x ≤ 2147483647
abbrev Gg : Type := va_G × (Nat → ClassId) × Nat × Nat × Nat × (Nat → Int32)
abbrev gD (G : Gg) : va_G := G.1
abbrev gA (G : Gg) : Nat → ClassId := G.2.1
abbrev gh (G : Gg) : Nat := G.2.2.1
abbrev gs (G : Gg) : Nat := G.2.2.2.1
abbrev gL (G : Gg) : Nat := G.2.2.2.2.1
abbrev gx (G : Gg) : Nat → Int32 := G.2.2.2.2.2
abbrev Mm : Type := (Int → Int → Option Int) × Nat × (Int → Int → Int)
def adr (G : Gg) (o : Int) : Nat := if o < 0 then gs G else gh G + o.toNat
def tv (G : Gg) (v : Vv) : Value := match v with
  | .inl x => .int (Int32.ofInt x)
  | .inr r => va_rf (r.map (adr G))
def vok (v : Vv) : Prop := match v with
  | .inl x => rng x
  | .inr _ => True
theorem tv_cat (G : Gg) (v : Vv) : (tv G v).category = 1 := by
  rcases v with x | (_ | o) <;> rfl
-- Int32 of an Int
theorem oi_t {a : Int} (h : rng a) : (Int32.ofInt a).toInt = a := by
  obtain ⟨h1, h2⟩ := h
  rw [Int32.toInt_ofInt]
  exact Int.bmod_eq_of_le (by show -((Int32.size : Int) / 2) ≤ a; simp [Int32.size]; omega) (by show a < ((Int32.size : Int) + 1) / 2; simp [Int32.size]; omega)
theorem oi_eq {a b : Int} (ha : rng a) (hb : rng b) : Int32.ofInt a = Int32.ofInt b ↔ a = b := ⟨fun h => by rw [← oi_t ha, ← oi_t hb, h], fun h => by rw [h]⟩
theorem oi_lt {a b : Int} (ha : rng a) (hb : rng b) : Int32.ofInt a < Int32.ofInt b ↔ a < b := by rw [Int32.lt_iff_toInt_lt, oi_t ha, oi_t hb]
theorem oi_le {a b : Int} (ha : rng a) (hb : rng b) : Int32.ofInt a ≤ Int32.ofInt b ↔ a ≤ b := by rw [Int32.le_iff_toInt_le, oi_t ha, oi_t hb]
theorem oi_0 : (0 : Int32) = Int32.ofInt 0 := rfl
theorem rng_0 : rng 0 := ⟨by decide, by decide⟩
theorem oi_cl {a : Int} (h : rng a) : (Int32.ofInt a).toNatClampNeg = a.toNat := by
  show (Int32.ofInt a).toInt.toNat = _
  rw [oi_t h]
theorem oi_in {a : Int} {n : Nat} (h : rng a) (h0 : 0 ≤ a) (hn : a < n) : vp_in (Int32.ofInt a) n := by
  unfold vp_in
  rw [oi_cl h, oi_0, oi_lt h rng_0]
  omega
theorem oi_nI (n : Nat) : nI n = Int32.ofInt n := rfl
theorem oi_toInt (x : Int32) : Int32.ofInt x.toInt = x := Int32.ofInt_toInt x
theorem rng_toInt (x : Int32) : rng x.toInt := ⟨x.le_toInt, by have := x.toInt_lt; omega⟩
-- kinds of objects, by their numbers
def kS (j : Int) : Nat := if j = 0 then 3 else if j = 1 then 17 else if j < 18 then 0 else if j = 18 then 10 else if j = 19 then 18 else 4
def kd (o : Int) : Nat :=
  if o < 0 then 99 else if o = 0 then 6
  else if o < 79 then kS ((o - 1) % 26)
  else if o = 79 then 2 else if o = 80 then 19
  else if o < 185 then kS ((o - 81) % 26)
  else if o = 185 then 5 else if o = 186 then 16 else if o = 187 then 20
  else if o < 218 then 1 else if o = 218 then 11
  else if o = 219 then 7 else if o = 220 then 12 else if o = 221 then 12 else if o = 222 then 13 else if o = 223 then 12 else if o = 224 then 14 else if o = 225 then 15 else 99
/-- an array's length, by its kind -/
def kl (k : Nat) : Nat := match k with
  | 10 => 64
  | 11 => 3
  | 12 => 472
  | 13 => 1888
  | 14 => 4
  | 15 => 60
  | 16 => 60
  | 17 => 16
  | 18 => 6
  | 19 => 4
  | _ => 30
/-- an array's sort: 0 int, 1 char, 2 Block, 3 Task, 4 State, 5 Command -/
def kt (k : Nat) : Nat := match k with
  | 16 => 1
  | 17 => 2
  | 18 => 3
  | 19 => 4
  | 20 => 5
  | _ => 0
def ety (a : Nat) : FieldType := match a with
  | 0 => .int
  | 1 => .char
  | 2 => .object (cnm 0)
  | 3 => .object (cnm 4)
  | 4 => .object (cnm 3)
  | _ => .object (cnm 1)
def tys_l (G : Gg) : List (ClassId × FieldType) := [(gA G 0, ety 0), (gA G 1, ety 1), (gA G 2, ety 2), (gA G 3, ety 3), (gA G 4, ety 4), (gA G 5, ety 5)]
def szo (o : Int) : Nat := if kd o < 8 then nfd (kd o) else kl (kd o)
def slt : Nat → Nat
  | 0 => 0
  | n + 1 => slt n + szo n
def fvl (G : Gg) (M : Mm) (ci : Nat) (o : Int) (k : Nat) : Value := if tyk ci k = 2 then tv G (.inr (M.1 o k)) else .int (Int32.ofInt (M.2.2 o k))
def ce (G : Gg) (M : Mm) (o : Int) : va_E :=
  if kd o < 8 then .inr (kd o, (List.range (nfd (kd o))).map (fvl G M (kd o) o))
  else if kt (kd o) < 2 then .inl (gA G (kt (kd o)), kl (kd o), .inl (fun j => Int32.ofInt (M.2.2 o j)))
  else .inl (gA G (kt (kd o)), kl (kd o), .inr (.inr (.inr (.inr (fun j => (M.1 o j).map (adr G))))))
def wl (G : Gg) (M : Mm) : va_W := (List.range M.2.1).map (fun i => (gh G + i, ce G M (i : Int)))
/-- the law's script is object -1, its length at -1 -/
def scr (G : Gg) (μ : Int → Int → Int) : Prop := μ (-1) (-1) = (gL G : Int) ∧ ∀ j : Nat, j < gL G → Int32.ofInt (μ (-1) j) = gx G j
/-- the heap holds the memory; how long it is matters while cells are still made -/
def Rep (G : Gg) (M : Mm) (H : Heap) : Prop := va_P (gD G) cls_l (wl G M) H ∧ (M.2.1 < 226 → H.size = gh G + M.2.1) ∧ (∀ o k, rng (M.2.2 o k)) ∧ scr G M.2.2
def vk (t : Nat) (o : Int) (ci : Nat) : Prop := 0 ≤ o ∧ o < t ∧ kd o = ci
theorem adr_pos {G : Gg} {o : Int} (h : 0 ≤ o) : adr G o = gh G + o.toNat := by
  unfold adr
  rw [if_neg (by omega)]
theorem wl_get {G : Gg} {M : Mm} {o : Int} (h0 : 0 ≤ o) (ht : o < M.2.1) : (wl G M)[o.toNat]? = some (adr G o, ce G M o) := by
  unfold wl
  rw [List.getElem?_map, List.getElem?_range (by omega), Option.map_some, adr_pos h0, Int.toNat_of_nonneg h0]
theorem wl_set {G : Gg} {M M' : Mm} {o : Int} (h0 : 0 ≤ o) (ht : M'.2.1 = M.2.1) (h : ∀ i : Int, i ≠ o → ce G M' i = ce G M i) {e : va_E} (he : ce G M' o = e) : (wl G M).set o.toNat (adr G o, e) = wl G M' := by
  subst he
  apply List.ext_getElem?
  intro i
  rw [List.getElem?_set]
  unfold wl
  simp only [List.getElem?_map, List.length_map, List.length_range, ht]
  by_cases hi : o.toNat = i
  · subst hi
    rw [if_pos rfl]
    by_cases hl : o.toNat < M.2.1
    · rw [if_pos hl, List.getElem?_range hl, Option.map_some, adr_pos h0, Int.toNat_of_nonneg h0]
    · rw [if_neg hl, List.getElem?_eq_none (by simp; omega)]
      rfl
  · rw [if_neg hi]
    by_cases hl : i < M.2.1
    · rw [List.getElem?_range hl, Option.map_some, Option.map_some, h i (by omega)]
    · rw [List.getElem?_eq_none (by simp; omega)]
      rfl
theorem wl_D {G : Gg} {M : Mm} : va_D (fun q : Nat => gh G ≤ q) (wl G M) := by
  have key : ∀ (i : Nat) (p : Nat × va_E), (wl G M)[i]? = some p → p.1 = gh G + i := by
    intro i p h
    unfold wl at h
    rw [List.getElem?_map] at h
    by_cases hl : i < M.2.1
    · rw [List.getElem?_range hl] at h
      cases h
      rfl
    · rw [List.getElem?_eq_none (by simp; omega)] at h
      cases h
  refine ⟨fun i j p q hp hq e => ?_, fun k q hq => ?_⟩
  · rw [key i p hp, key j q hq] at e
    omega
  · show gh G ≤ q.1
    rw [key k q hq]
    omega
def upM (μ : Int → Int → Int) (o k v : Int) : Int → Int → Int := fun o' k' => if o' = o ∧ k' = k then v else μ o' k'
def upR (ρ : Int → Int → Option Int) (o k : Int) (v : Option Int) : Int → Int → Option Int := fun o' k' => if o' = o ∧ k' = k then v else ρ o' k'
theorem ce_congr {G : Gg} {M M' : Mm} {o : Int} (h1 : ∀ k : Nat, M'.1 o k = M.1 o k) (h2 : ∀ k : Nat, M'.2.2 o k = M.2.2 o k) : ce G M' o = ce G M o := by
  have e1 : fvl G M' (kd o) o = fvl G M (kd o) o := by
    funext k
    unfold fvl
    rw [h1, h2]
  unfold ce
  rw [e1]
  simp only [h1, h2]
theorem fvl_at {G : Gg} {M : Mm} {ci : Nat} {o : Int} {k : Nat} (hk : k < nfd ci) : ((List.range (nfd ci)).map (fvl G M ci o))[k]? = some (fvl G M ci o k) := by
  rw [List.getElem?_map, List.getElem?_range hk]
  rfl
theorem ce_obj {G : Gg} {M : Mm} {o : Int} {ci : Nat} (h : kd o = ci) (hc : ci < 8) : ce G M o = .inr (ci, (List.range (nfd ci)).map (fvl G M ci o)) := by
  subst h
  unfold ce
  rw [if_pos hc]
theorem ce_int {G : Gg} {M : Mm} {o : Int} {q : Nat} (h : kd o = q) (hc : ¬ q < 8) (ht : kt q < 2) : ce G M o = .inl (gA G (kt q), kl q, .inl (fun j => Int32.ofInt (M.2.2 o j))) := by
  subst h
  unfold ce
  rw [if_neg hc, if_pos ht]
theorem ce_ref {G : Gg} {M : Mm} {o : Int} {q : Nat} (h : kd o = q) (hc : ¬ q < 8) (ht : ¬ kt q < 2) : ce G M o = .inl (gA G (kt q), kl q, .inr (.inr (.inr (.inr (fun j => (M.1 o j).map (adr G)))))) := by
  subst h
  unfold ce
  rw [if_neg hc, if_neg ht]
def LocOK (G : Gg) (ls : Array Slot) (n : Nat) (L : List (Option Vv)) : Prop := ls.size = n ∧ lv_wf ls ∧ L.length = n ∧ ∀ (i : Nat) (v : Vv), L[i]? = some (some v) → ls[i]? = some (.val (tv G v)) ∧ vok v
/-- words of the start that no list of words carries -/
def Xw (s : State) : Prop := va_AO (cnm 0) s ∧ va_AO (cnm 4) s ∧ va_AO (cnm 3) s ∧ va_AO (cnm 1) s ∧ va_Nw (.methodLinkNest "GuardedPool$Text" 21 (mnm mi_Cmd_init) "GuardedPool") s
def retI (r : Option FieldType) : Instr := match r with
  | none => .return_
  | some (.object _) => .areturn
  | some (.array _) => .areturn
  | some _ => .ireturn
def Cx (G : Gg) (y : MI) (p : Program) (s : State) (m : MethodId) (args : Array Value) (meth : Method) (c : Code) : Prop :=
  p.tables.exec = Jvm.exec ∧ c.code = mbc y ∧ c.maxLocals = mml y ∧ s.vm.findClass (mnm y).cls = some m.cls ∧ (∀ w ∈ lw_g, w.before args s = true) ∧ va_K (gD G) cls_l (tys_l G) s ∧ Xw s ∧ ((mnm y).name = "<init>" → meth.name = "<init>") ∧ gh G ≤ s.heap.size ∧ ((mnm y).name = "law" → va_X (gs G) (gL G) (gx G) s s.heap ∧ gs G < gh G)
abbrev Ah (G : Gg) : Nat → Prop := fun q => gh G ≤ q
/-- from this place of method y the method goes on to return r, with the memory Mf; t0: how many objects there were at its start -/
def SPW (y : MI) (t0 pc : Nat) (L : List (Option Vv)) (S : List Vv) (M : Mm) (r : Option Vv) (Mf : Mm) : Prop :=
  ∀ (G : Gg) (p : Program) (l : Launch) (e : Env) (s : State) (m : MethodId) (args : Array Value) (below : List Frame) (meth : Method) (c : Code) (H : Heap) (locs : List Loc) (ls : Array Slot) (Z : State → Prop),
    Cx G y p s m args meth c → Rep G M H → LocOK G ls (mml y) L → (∀ v ∈ S, vok v) → va_S (Ah G) s.heap H locs →
    (∀ (H' : Heap) (locs' : List Loc) (ls' : Array Slot) (pc' : Nat), Rep G Mf H' → va_S (Ah G) s.heap H' locs' → (∀ v, r = some v → vok v) → decode (mbc y) pc' = .ok (retI (mrt y), 1) →
      W p l e (mrm y) s m args below meth c H' locs' (Mf.2.1 - t0) (slt Mf.2.1 - slt t0) Z (F0 m pc' ls' (r.toList.map (tv G)))) →
    W p l e (mrm y) s m args below meth c H locs (M.2.1 - t0) (slt M.2.1 - slt t0) Z (F0 m pc ls (S.map (tv G)))
abbrev wsM (y : MI) : List Cond := Cond.code (mnm y) (mbc y) (mml y) (mrt y) :: lw_g
def MetP (G : Gg) (as : List Vv) (M : Mm) (U : State) : Prop := Rep G M U.heap ∧ va_K (gD G) cls_l (tys_l G) U ∧ Xw U ∧ ∀ v ∈ as, vok v
def MetQ (G : Gg) (r : Option Vv) (Mf : Mm) : Array Value → State → Outcome → State → Prop := fun _ st o t => o = .returned (r.map (tv G)) ∧ Rep G Mf t.heap ∧ (∀ v, r = some v → vok v) ∧ va_F (Ah G) st t
/-- method y's contract: called with these arguments over the memory M it returns r and leaves Mf -/
def MetC (y : MI) (as : List Vv) (M : Mm) (r : Option Vv) (Mf : Mm) : Prop :=
  ∀ (l : Launch) (G : Gg), Met l (mnm y) (wsM y) (mrm y) (va_Pc (as.map (tv G)) (MetP G as M)) (MetQ G r Mf) (Mf.2.1 - M.2.1) (slt Mf.2.1 - slt M.2.1) (Ah G)
/-- what a method may return, by its type -/
def rOK (rt : Option FieldType) (r : Option Vv) : Prop := match rt, r with
  | none, none => True
  | some .int, some (.inl _) => True
  | some .boolean, some (.inl x) => x = 0 ∨ x = 1
  | some .char, some (.inl x) => 0 ≤ x ∧ x < 65536
  | some (.object _), some (.inr _) => True
  | _, _ => False
end
section
/-! one row an instruction, over SPW: locals, numbers, branches -/
def Dc (y : MI) (pc : Nat) (i : Instr) (n pc' : Nat) : Prop := decode (mbc y) pc = .ok (i, n) ∧ pc + n = pc'
def Db (y : MI) (pc : Nat) (i : Instr) (off : Int) (pc' tgt : Nat) : Prop := decode (mbc y) pc = .ok (i, 3) ∧ pc + 3 = pc' ∧ (pc : Int) + off = (tgt : Int)
theorem vok_c {v : Vv} {S : List Vv} (h : vok v) (hS : ∀ w ∈ S, vok w) : ∀ w ∈ v :: S, vok w := List.forall_mem_cons.mpr ⟨h, hS⟩
theorem vok_h {v : Vv} {S : List Vv} (hS : ∀ w ∈ v :: S, vok w) : vok v := (List.forall_mem_cons.mp hS).1
theorem vok_t {v : Vv} {S : List Vv} (hS : ∀ w ∈ v :: S, vok w) : ∀ w ∈ S, vok w := (List.forall_mem_cons.mp hS).2
def lvL (G : Gg) (L : List (Option Vv)) : List (Nat × Value) := (List.range L.length).filterMap (fun i => (L[i]?.join).map (fun v => (i, tv G v)))
theorem lvL_mem {G : Gg} {L : List (Option Vv)} {i : Nat} {w : Value} (h : (i, w) ∈ lvL G L) : ∃ v, L[i]? = some (some v) ∧ w = tv G v := by
  obtain ⟨j, -, hj⟩ := List.mem_filterMap.mp h
  rw [Option.map_eq_some_iff] at hj
  obtain ⟨v, hv, he⟩ := hj
  cases he
  exact ⟨v, by simpa [Option.join_eq_some_iff] using hv, rfl⟩
theorem lvL_in {G : Gg} {L : List (Option Vv)} {i : Nat} {v : Vv} (h : L[i]? = some (some v)) : (i, tv G v) ∈ lvL G L := by
  refine List.mem_filterMap.mpr ⟨i, List.mem_range.mpr (List.getElem?_eq_some_iff.mp h).1, ?_⟩
  rw [h]
  rfl
theorem LocOK.has {G : Gg} {ls : Array Slot} {n : Nat} {L : List (Option Vv)} (h : LocOK G ls n L) : lv_has ls n (lvL G L) := by
  refine ⟨h.1, h.2.1, fun q hq => ?_⟩
  obtain ⟨i, w⟩ := q
  obtain ⟨v, hv, rfl⟩ := lvL_mem hq
  exact (h.2.2.2 i v hv).1
theorem LocOK.of {G : Gg} {ls ls' : Array Slot} {n i : Nat} {L : List (Option Vv)} {v : Vv} (h : LocOK G ls n L) (hv : vok v) (h' : lv_has ls' n ((i, tv G v) :: (lvL G L).filter (fun q => !(q.1 == i) && !(q.1 + 1 == i && q.2.category == 2)))) : LocOK G ls' n (L.set i (some v)) := by
  refine ⟨h'.1, h'.2.1, by rw [List.length_set]; exact h.2.2.1, fun j w hj => ?_⟩
  rw [List.getElem?_set] at hj
  by_cases e : i = j
  · subst e
    rw [if_pos rfl] at hj
    by_cases hl : i < L.length
    · rw [if_pos hl] at hj
      cases hj
      exact ⟨h'.2.2 (i, tv G v) List.mem_cons_self, hv⟩
    · rw [if_neg hl] at hj
      cases hj
  · rw [if_neg e] at hj
    refine ⟨h'.2.2 (j, tv G w) (List.mem_cons_of_mem _ (List.mem_filter.mpr ⟨lvL_in hj, ?_⟩)), (h.2.2.2 j w hj).2⟩
    have c1 := tv_cat G w
    have e1 : (j == i) = false := by simpa using fun q : j = i => e q.symm
    simp [e1, c1]
section RU
variable {y : MI} {t0 pc pc' tgt : Nat} {L L' : List (Option Vv)} {S : List Vv} {M Mf : Mm} {r : Option Vv}
theorem r_iconst {n : Int} (hd : Dc y pc (.iconst n) 1 pc') (hr : rng n) (kk : SPW y t0 pc' L (vI n :: S) M r Mf) : SPW y t0 pc L S M r Mf := by
  intro G p l e s m args below meth c H locs ls Z C R Lk hS hV hfin
  obtain ⟨hd, rfl⟩ := hd
  exact lv_iconst (v := Int32.ofInt n) C.1 C.2.1 hd rfl (kk G p l e s m args below meth c H locs ls Z C R Lk (vok_c hr hS) hV hfin)
theorem r_bipush {n : Int} (hd : Dc y pc (.bipush n) 2 pc') (hr : rng n) (hn : (Int8.ofInt n).toInt32 = Int32.ofInt n) (kk : SPW y t0 pc' L (vI n :: S) M r Mf) : SPW y t0 pc L S M r Mf := by
  intro G p l e s m args below meth c H locs ls Z C R Lk hS hV hfin
  obtain ⟨hd, rfl⟩ := hd
  exact lv_bipush (v := Int32.ofInt n) C.1 C.2.1 hd hn (kk G p l e s m args below meth c H locs ls Z C R Lk (vok_c hr hS) hV hfin)
theorem r_sipush {n : Int} (hd : Dc y pc (.sipush n) 3 pc') (hr : rng n) (hn : (Int16.ofInt n).toInt32 = Int32.ofInt n) (kk : SPW y t0 pc' L (vI n :: S) M r Mf) : SPW y t0 pc L S M r Mf := by
  intro G p l e s m args below meth c H locs ls Z C R Lk hS hV hfin
  obtain ⟨hd, rfl⟩ := hd
  exact lv_sipush (v := Int32.ofInt n) C.1 C.2.1 hd hn (kk G p l e s m args below meth c H locs ls Z C R Lk (vok_c hr hS) hV hfin)
theorem r_null (hd : Dc y pc .aconst_null 1 pc') (kk : SPW y t0 pc' L (vN :: S) M r Mf) : SPW y t0 pc L S M r Mf := by
  intro G p l e s m args below meth c H locs ls Z C R Lk hS hV hfin
  obtain ⟨hd, rfl⟩ := hd
  exact lv_null C.1 C.2.1 hd (kk G p l e s m args below meth c H locs ls Z C R Lk (vok_c (v := vN) trivial hS) hV hfin)
theorem r_iloadn {k : Fin 4} {x : Int} (hd : Dc y pc (.iload_n k) 1 pc') (hL : L[(k : Nat)]? = some (some (vI x))) (kk : SPW y t0 pc' L (vI x :: S) M r Mf) : SPW y t0 pc L S M r Mf := by
  intro G p l e s m args below meth c H locs ls Z C R Lk hS hV hfin
  obtain ⟨hd, rfl⟩ := hd
  obtain ⟨h1, h2⟩ := Lk.2.2.2 _ _ hL
  exact lv_iload_n C.1 C.2.1 hd rfl h1 (kk G p l e s m args below meth c H locs ls Z C R Lk (vok_c h2 hS) hV hfin)
theorem r_iload {k : Nat} {x : Int} (hd : Dc y pc (.iload k) 2 pc') (hL : L[k]? = some (some (vI x))) (kk : SPW y t0 pc' L (vI x :: S) M r Mf) : SPW y t0 pc L S M r Mf := by
  intro G p l e s m args below meth c H locs ls Z C R Lk hS hV hfin
  obtain ⟨hd, rfl⟩ := hd
  obtain ⟨h1, h2⟩ := Lk.2.2.2 _ _ hL
  exact lv_iload C.1 C.2.1 hd h1 (kk G p l e s m args below meth c H locs ls Z C R Lk (vok_c h2 hS) hV hfin)
theorem r_aloadn {k : Fin 4} {v : Option Int} (hd : Dc y pc (.aload_n k) 1 pc') (hL : L[(k : Nat)]? = some (some (.inr v))) (kk : SPW y t0 pc' L (.inr v :: S) M r Mf) : SPW y t0 pc L S M r Mf := by
  intro G p l e s m args below meth c H locs ls Z C R Lk hS hV hfin
  obtain ⟨hd, rfl⟩ := hd
  obtain ⟨h1, h2⟩ := Lk.2.2.2 _ _ hL
  cases v with
  | none => exact lv_aload_nN C.1 C.2.1 hd rfl h1 (kk G p l e s m args below meth c H locs ls Z C R Lk (vok_c h2 hS) hV hfin)
  | some o => exact lv_aload_n C.1 C.2.1 hd rfl h1 (kk G p l e s m args below meth c H locs ls Z C R Lk (vok_c h2 hS) hV hfin)
theorem r_aload {k : Nat} {v : Option Int} (hd : Dc y pc (.aload k) 2 pc') (hL : L[k]? = some (some (.inr v))) (kk : SPW y t0 pc' L (.inr v :: S) M r Mf) : SPW y t0 pc L S M r Mf := by
  intro G p l e s m args below meth c H locs ls Z C R Lk hS hV hfin
  obtain ⟨hd, rfl⟩ := hd
  obtain ⟨h1, h2⟩ := Lk.2.2.2 _ _ hL
  cases v with
  | none => exact lv_aloadN C.1 C.2.1 hd h1 (kk G p l e s m args below meth c H locs ls Z C R Lk (vok_c h2 hS) hV hfin)
  | some o => exact lv_aload C.1 C.2.1 hd h1 (kk G p l e s m args below meth c H locs ls Z C R Lk (vok_c h2 hS) hV hfin)
theorem blt_l {G : Gg} {ls : Array Slot} {n i : Nat} {L : List (Option Vv)} (h : LocOK G ls n L) (hb : Nat.blt i L.length = true) : i < n := by
  rw [← h.2.2.1]
  exact Nat.le_of_ble_eq_true hb
theorem r_istoren {k : Fin 4} {x : Int} (hd : Dc y pc (.istore_n k) 1 pc') (hb : Nat.blt k L.length = true) (hL : L.set k (some (vI x)) = L') (kk : SPW y t0 pc' L' S M r Mf) : SPW y t0 pc L (vI x :: S) M r Mf := by
  intro G p l e s m args below meth c H locs ls Z C R Lk hS hV hfin
  obtain ⟨hd, rfl⟩ := hd
  subst hL
  exact lv_istore_n C.1 C.2.1 hd rfl Lk.has (blt_l Lk hb) rfl (fun ls' h' => kk G p l e s m args below meth c H locs ls' Z C R (Lk.of (vok_h hS) h') (vok_t hS) hV hfin)
theorem r_istore {k : Nat} {x : Int} (hd : Dc y pc (.istore k) 2 pc') (hb : Nat.blt k L.length = true) (hL : L.set k (some (vI x)) = L') (kk : SPW y t0 pc' L' S M r Mf) : SPW y t0 pc L (vI x :: S) M r Mf := by
  intro G p l e s m args below meth c H locs ls Z C R Lk hS hV hfin
  obtain ⟨hd, rfl⟩ := hd
  subst hL
  exact lv_istore C.1 C.2.1 hd Lk.has (blt_l Lk hb) rfl (fun ls' h' => kk G p l e s m args below meth c H locs ls' Z C R (Lk.of (vok_h hS) h') (vok_t hS) hV hfin)
theorem r_astoren {k : Fin 4} {v : Option Int} (hd : Dc y pc (.astore_n k) 1 pc') (hb : Nat.blt k L.length = true) (hL : L.set k (some (.inr v)) = L') (kk : SPW y t0 pc' L' S M r Mf) : SPW y t0 pc L (.inr v :: S) M r Mf := by
  intro G p l e s m args below meth c H locs ls Z C R Lk hS hV hfin
  obtain ⟨hd, rfl⟩ := hd
  subst hL
  cases v with
  | none => exact lv_astore_nN C.1 C.2.1 hd rfl Lk.has (blt_l Lk hb) rfl (fun ls' h' => kk G p l e s m args below meth c H locs ls' Z C R (Lk.of (vok_h hS) h') (vok_t hS) hV hfin)
  | some o => exact lv_astore_n C.1 C.2.1 hd rfl Lk.has (blt_l Lk hb) rfl (fun ls' h' => kk G p l e s m args below meth c H locs ls' Z C R (Lk.of (vok_h hS) h') (vok_t hS) hV hfin)
theorem r_astore {k : Nat} {v : Option Int} (hd : Dc y pc (.astore k) 2 pc') (hb : Nat.blt k L.length = true) (hL : L.set k (some (.inr v)) = L') (kk : SPW y t0 pc' L' S M r Mf) : SPW y t0 pc L (.inr v :: S) M r Mf := by
  intro G p l e s m args below meth c H locs ls Z C R Lk hS hV hfin
  obtain ⟨hd, rfl⟩ := hd
  subst hL
  cases v with
  | none => exact lv_astoreN C.1 C.2.1 hd Lk.has (blt_l Lk hb) rfl (fun ls' h' => kk G p l e s m args below meth c H locs ls' Z C R (Lk.of (vok_h hS) h') (vok_t hS) hV hfin)
  | some o => exact lv_astore C.1 C.2.1 hd Lk.has (blt_l Lk hb) rfl (fun ls' h' => kk G p l e s m args below meth c H locs ls' Z C R (Lk.of (vok_h hS) h') (vok_t hS) hV hfin)
theorem r_iinc {i : Nat} {n x : Int} (hd : Dc y pc (.iinc i n) 3 pc') (hx : L[i]? = some (some (vI x))) (hr : rng (x + n)) (hL : L.set i (some (vI (x + n))) = L') (kk : SPW y t0 pc' L' S M r Mf) : SPW y t0 pc L S M r Mf := by
  intro G p l e s m args below meth c H locs ls Z C R Lk hS hV hfin
  obtain ⟨hd, rfl⟩ := hd
  subst hL
  obtain ⟨k, hk⟩ := List.getElem?_of_mem (lvL_in (G := G) hx)
  exact lv_iinc (v := Int32.ofInt (x + n)) C.1 C.2.1 hd Lk.has hk (Int32.ofInt_add x n).symm (by rw [← Lk.2.2.1]; exact (List.getElem?_eq_some_iff.mp hx).1) rfl (fun ls' h' => kk G p l e s m args below meth c H locs ls' Z C R (Lk.of (v := vI (x + n)) hr h') hS hV hfin)
theorem r_iadd {x z : Int} (hd : Dc y pc .iadd 1 pc') (hr : rng (x + z)) (kk : SPW y t0 pc' L (vI (x + z) :: S) M r Mf) : SPW y t0 pc L (vI z :: vI x :: S) M r Mf := by
  intro G p l e s m args below meth c H locs ls Z C R Lk hS hV hfin
  obtain ⟨hd, rfl⟩ := hd
  refine lv_iadd C.1 C.2.1 hd ?_
  rw [← Int32.ofInt_add]
  exact kk G p l e s m args below meth c H locs ls Z C R Lk (vok_c hr (vok_t (vok_t hS))) hV hfin
theorem r_isub {x z : Int} (hd : Dc y pc .isub 1 pc') (hr : rng (x - z)) (kk : SPW y t0 pc' L (vI (x - z) :: S) M r Mf) : SPW y t0 pc L (vI z :: vI x :: S) M r Mf := by
  intro G p l e s m args below meth c H locs ls Z C R Lk hS hV hfin
  obtain ⟨hd, rfl⟩ := hd
  refine lv_isub C.1 C.2.1 hd ?_
  rw [← Int32.ofInt_sub]
  exact kk G p l e s m args below meth c H locs ls Z C R Lk (vok_c hr (vok_t (vok_t hS))) hV hfin
theorem r_imul {x z : Int} (hd : Dc y pc .imul 1 pc') (hr : rng (x * z)) (kk : SPW y t0 pc' L (vI (x * z) :: S) M r Mf) : SPW y t0 pc L (vI z :: vI x :: S) M r Mf := by
  intro G p l e s m args below meth c H locs ls Z C R Lk hS hV hfin
  obtain ⟨hd, rfl⟩ := hd
  refine lv_imul C.1 C.2.1 hd ?_
  rw [← Int32.ofInt_mul]
  exact kk G p l e s m args below meth c H locs ls Z C R Lk (vok_c hr (vok_t (vok_t hS))) hV hfin
theorem oi_div {x z : Int} (hx : rng x) (hz : rng z) (h0 : 0 ≤ x) (h1 : 0 < z) : Int32.ofInt x / Int32.ofInt z = Int32.ofInt (x / z) ∧ rng (x / z) := by
  have a1 : 0 ≤ x / z := Int.ediv_nonneg h0 (by omega)
  have a2 : x / z ≤ x := Int.ediv_le_self z h0
  have hq : rng (x / z) := ⟨by omega, by have := hx.2; omega⟩
  refine ⟨?_, hq⟩
  apply Int32.toInt_inj.mp
  rw [oi_t hq, Int32.toInt_div, oi_t hx, oi_t hz, Int.tdiv_eq_ediv_of_nonneg h0]
  have := oi_t hq
  rw [Int32.toInt_ofInt] at this
  exact this
theorem r_idiv {x z : Int} (hd : Dc y pc .idiv 1 pc') (h0 : 0 ≤ x) (h1 : 0 < z) (kk : SPW y t0 pc' L (vI (x / z) :: S) M r Mf) : SPW y t0 pc L (vI z :: vI x :: S) M r Mf := by
  intro G p l e s m args below meth c H locs ls Z C R Lk hS hV hfin
  obtain ⟨hd, rfl⟩ := hd
  have hz : rng z := vok_h hS
  have hx : rng x := vok_h (vok_t hS)
  obtain ⟨e1, e2⟩ := oi_div hx hz h0 h1
  refine lv_idiv C.1 C.2.1 hd (by rw [oi_0, oi_eq hz rng_0]; omega) ?_
  rw [e1]
  exact kk G p l e s m args below meth c H locs ls Z C R Lk (vok_c (v := vI (x / z)) e2 (vok_t (vok_t hS))) hV hfin
theorem r_irem {x z : Int} (hd : Dc y pc .irem 1 pc') (h0 : 0 ≤ x) (h1 : 0 < z) (kk : SPW y t0 pc' L (vI (x % z) :: S) M r Mf) : SPW y t0 pc L (vI z :: vI x :: S) M r Mf := by
  intro G p l e s m args below meth c H locs ls Z C R Lk hS hV hfin
  obtain ⟨hd, rfl⟩ := hd
  have hz : rng z := vok_h hS
  have hx : rng x := vok_h (vok_t hS)
  obtain ⟨e1, e2⟩ := oi_div hx hz h0 h1
  refine lv_irem C.1 C.2.1 hd (by rw [oi_0, oi_eq hz rng_0]; omega) ?_
  have e3 : Int32.ofInt x - Int32.ofInt x / Int32.ofInt z * Int32.ofInt z = Int32.ofInt (x % z) := by
    rw [e1, ← Int32.ofInt_mul, ← Int32.ofInt_sub, Int.emod_def, Int.mul_comm]
  rw [e3]
  have a1 : 0 ≤ x % z := Int.emod_nonneg x (by omega)
  have a2 : x % z < z := Int.emod_lt_of_pos x h1
  exact kk G p l e s m args below meth c H locs ls Z C R Lk (vok_c (v := vI (x % z)) ⟨by omega, by have := hz.2; omega⟩ (vok_t (vok_t hS))) hV hfin
theorem r_dup {v : Vv} (hd : Dc y pc .dup 1 pc') (kk : SPW y t0 pc' L (v :: v :: S) M r Mf) : SPW y t0 pc L (v :: S) M r Mf := by
  intro G p l e s m args below meth c H locs ls Z C R Lk hS hV hfin
  obtain ⟨hd, rfl⟩ := hd
  exact lv_dup C.1 C.2.1 hd (tv_cat G v) (kk G p l e s m args below meth c H locs ls Z C R Lk (vok_c (vok_h hS) hS) hV hfin)
theorem r_dup2 {v w : Vv} (hd : Dc y pc .dup2 1 pc') (kk : SPW y t0 pc' L (v :: w :: v :: w :: S) M r Mf) : SPW y t0 pc L (v :: w :: S) M r Mf := by
  intro G p l e s m args below meth c H locs ls Z C R Lk hS hV hfin
  obtain ⟨hd, rfl⟩ := hd
  exact lv_dup2_11 C.1 C.2.1 hd (tv_cat G v) (tv_cat G w) (kk G p l e s m args below meth c H locs ls Z C R Lk (vok_c (vok_h hS) (vok_c (vok_h (vok_t hS)) hS)) hV hfin)
theorem r_pop {v : Vv} (hd : Dc y pc .pop 1 pc') (kk : SPW y t0 pc' L S M r Mf) : SPW y t0 pc L (v :: S) M r Mf := by
  intro G p l e s m args below meth c H locs ls Z C R Lk hS hV hfin
  obtain ⟨hd, rfl⟩ := hd
  exact lv_pop C.1 C.2.1 hd (tv_cat G v) (kk G p l e s m args below meth c H locs ls Z C R Lk (vok_t hS) hV hfin)
theorem r_goto {off : Int} (hd : Db y pc (.goto off) off pc' tgt) (kk : SPW y t0 tgt L S M r Mf) : SPW y t0 pc L S M r Mf := by
  intro G p l e s m args below meth c H locs ls Z C R Lk hS hV hfin
  exact lv_goto C.1 C.2.1 hd.1 hd.2.2 (kk G p l e s m args below meth c H locs ls Z C R Lk hS hV hfin)
theorem r_icmp_eq {x z : Int} {off : Int} (hd : Db y pc (.if_icmp .eq off) off pc' tgt) (kt : x = z → SPW y t0 tgt L S M r Mf) (kf : ¬ (x = z) → SPW y t0 pc' L S M r Mf) : SPW y t0 pc L (vI z :: vI x :: S) M r Mf := by
  intro G p l e s m args below meth c H locs ls Z C R Lk hS hV hfin
  obtain ⟨hd, rfl, ht⟩ := hd
  have hz : rng z := vok_h hS
  have hx : rng x := vok_h (vok_t hS)
  have hS' := vok_t (vok_t hS)
  exact lv_icmp_eq C.1 C.2.1 hd ht (fun q => kt (by simpa [oi_eq hx hz] using q) G p l e s m args below meth c H locs ls Z C R Lk hS' hV hfin) (fun q => kf (by simpa [oi_eq hx hz] using q) G p l e s m args below meth c H locs ls Z C R Lk hS' hV hfin)
theorem r_if_eq {x : Int} {off : Int} (hd : Db y pc (.ifCond .eq off) off pc' tgt) (kt : x = 0 → SPW y t0 tgt L S M r Mf) (kf : ¬ (x = 0) → SPW y t0 pc' L S M r Mf) : SPW y t0 pc L (vI x :: S) M r Mf := by
  intro G p l e s m args below meth c H locs ls Z C R Lk hS hV hfin
  obtain ⟨hd, rfl, ht⟩ := hd
  have hx : rng x := vok_h hS
  have hS' := vok_t hS
  exact lv_if_eq C.1 C.2.1 hd ht (fun q => kt ((oi_eq hx rng_0).mp q) G p l e s m args below meth c H locs ls Z C R Lk hS' hV hfin) (fun q => kf (fun h => q ((oi_eq hx rng_0).mpr h)) G p l e s m args below meth c H locs ls Z C R Lk hS' hV hfin)
theorem r_icmp_ne {x z : Int} {off : Int} (hd : Db y pc (.if_icmp .ne off) off pc' tgt) (kt : x ≠ z → SPW y t0 tgt L S M r Mf) (kf : ¬ (x ≠ z) → SPW y t0 pc' L S M r Mf) : SPW y t0 pc L (vI z :: vI x :: S) M r Mf := by
  intro G p l e s m args below meth c H locs ls Z C R Lk hS hV hfin
  obtain ⟨hd, rfl, ht⟩ := hd
  have hz : rng z := vok_h hS
  have hx : rng x := vok_h (vok_t hS)
  have hS' := vok_t (vok_t hS)
  exact lv_icmp_ne C.1 C.2.1 hd ht (fun q => kt (by simpa [oi_eq hx hz] using q) G p l e s m args below meth c H locs ls Z C R Lk hS' hV hfin) (fun q => kf (by simpa [oi_eq hx hz] using q) G p l e s m args below meth c H locs ls Z C R Lk hS' hV hfin)
theorem r_if_ne {x : Int} {off : Int} (hd : Db y pc (.ifCond .ne off) off pc' tgt) (kt : x ≠ 0 → SPW y t0 tgt L S M r Mf) (kf : ¬ (x ≠ 0) → SPW y t0 pc' L S M r Mf) : SPW y t0 pc L (vI x :: S) M r Mf := by
  intro G p l e s m args below meth c H locs ls Z C R Lk hS hV hfin
  obtain ⟨hd, rfl, ht⟩ := hd
  have hx : rng x := vok_h hS
  have hS' := vok_t hS
  exact lv_if_ne C.1 C.2.1 hd ht (fun q => kt (fun h => q ((oi_eq hx rng_0).mpr h)) G p l e s m args below meth c H locs ls Z C R Lk hS' hV hfin) (fun q => kf (fun h => h ((oi_eq hx rng_0).mp q)) G p l e s m args below meth c H locs ls Z C R Lk hS' hV hfin)
theorem r_icmp_lt {x z : Int} {off : Int} (hd : Db y pc (.if_icmp .lt off) off pc' tgt) (kt : x < z → SPW y t0 tgt L S M r Mf) (kf : ¬ (x < z) → SPW y t0 pc' L S M r Mf) : SPW y t0 pc L (vI z :: vI x :: S) M r Mf := by
  intro G p l e s m args below meth c H locs ls Z C R Lk hS hV hfin
  obtain ⟨hd, rfl, ht⟩ := hd
  have hz : rng z := vok_h hS
  have hx : rng x := vok_h (vok_t hS)
  have hS' := vok_t (vok_t hS)
  exact lv_icmp_lt C.1 C.2.1 hd ht (fun q => kt (by simpa [oi_lt hx hz] using q) G p l e s m args below meth c H locs ls Z C R Lk hS' hV hfin) (fun q => kf (by simpa [oi_lt hx hz] using q) G p l e s m args below meth c H locs ls Z C R Lk hS' hV hfin)
theorem r_if_lt {x : Int} {off : Int} (hd : Db y pc (.ifCond .lt off) off pc' tgt) (kt : x < 0 → SPW y t0 tgt L S M r Mf) (kf : ¬ (x < 0) → SPW y t0 pc' L S M r Mf) : SPW y t0 pc L (vI x :: S) M r Mf := by
  intro G p l e s m args below meth c H locs ls Z C R Lk hS hV hfin
  obtain ⟨hd, rfl, ht⟩ := hd
  have hx : rng x := vok_h hS
  have hS' := vok_t hS
  exact lv_if_lt C.1 C.2.1 hd ht (fun q => kt ((oi_lt hx rng_0).mp q) G p l e s m args below meth c H locs ls Z C R Lk hS' hV hfin) (fun q => kf (fun h => q ((oi_lt hx rng_0).mpr h)) G p l e s m args below meth c H locs ls Z C R Lk hS' hV hfin)
theorem r_icmp_ge {x z : Int} {off : Int} (hd : Db y pc (.if_icmp .ge off) off pc' tgt) (kt : z ≤ x → SPW y t0 tgt L S M r Mf) (kf : ¬ (z ≤ x) → SPW y t0 pc' L S M r Mf) : SPW y t0 pc L (vI z :: vI x :: S) M r Mf := by
  intro G p l e s m args below meth c H locs ls Z C R Lk hS hV hfin
  obtain ⟨hd, rfl, ht⟩ := hd
  have hz : rng z := vok_h hS
  have hx : rng x := vok_h (vok_t hS)
  have hS' := vok_t (vok_t hS)
  exact lv_icmp_ge C.1 C.2.1 hd ht (fun q => kt (by simpa [oi_le hz hx] using q) G p l e s m args below meth c H locs ls Z C R Lk hS' hV hfin) (fun q => kf (by simpa [oi_le hz hx] using q) G p l e s m args below meth c H locs ls Z C R Lk hS' hV hfin)
theorem r_if_ge {x : Int} {off : Int} (hd : Db y pc (.ifCond .ge off) off pc' tgt) (kt : 0 ≤ x → SPW y t0 tgt L S M r Mf) (kf : ¬ (0 ≤ x) → SPW y t0 pc' L S M r Mf) : SPW y t0 pc L (vI x :: S) M r Mf := by
  intro G p l e s m args below meth c H locs ls Z C R Lk hS hV hfin
  obtain ⟨hd, rfl, ht⟩ := hd
  have hx : rng x := vok_h hS
  have hS' := vok_t hS
  exact lv_if_ge C.1 C.2.1 hd ht (fun q => kt ((oi_le rng_0 hx).mp q) G p l e s m args below meth c H locs ls Z C R Lk hS' hV hfin) (fun q => kf (fun h => q ((oi_le rng_0 hx).mpr h)) G p l e s m args below meth c H locs ls Z C R Lk hS' hV hfin)
theorem r_icmp_gt {x z : Int} {off : Int} (hd : Db y pc (.if_icmp .gt off) off pc' tgt) (kt : z < x → SPW y t0 tgt L S M r Mf) (kf : ¬ (z < x) → SPW y t0 pc' L S M r Mf) : SPW y t0 pc L (vI z :: vI x :: S) M r Mf := by
  intro G p l e s m args below meth c H locs ls Z C R Lk hS hV hfin
  obtain ⟨hd, rfl, ht⟩ := hd
  have hz : rng z := vok_h hS
  have hx : rng x := vok_h (vok_t hS)
  have hS' := vok_t (vok_t hS)
  exact lv_icmp_gt C.1 C.2.1 hd ht (fun q => kt (by simpa [oi_lt hz hx] using q) G p l e s m args below meth c H locs ls Z C R Lk hS' hV hfin) (fun q => kf (by simpa [oi_lt hz hx] using q) G p l e s m args below meth c H locs ls Z C R Lk hS' hV hfin)
theorem r_if_gt {x : Int} {off : Int} (hd : Db y pc (.ifCond .gt off) off pc' tgt) (kt : 0 < x → SPW y t0 tgt L S M r Mf) (kf : ¬ (0 < x) → SPW y t0 pc' L S M r Mf) : SPW y t0 pc L (vI x :: S) M r Mf := by
  intro G p l e s m args below meth c H locs ls Z C R Lk hS hV hfin
  obtain ⟨hd, rfl, ht⟩ := hd
  have hx : rng x := vok_h hS
  have hS' := vok_t hS
  exact lv_if_gt C.1 C.2.1 hd ht (fun q => kt ((oi_lt rng_0 hx).mp q) G p l e s m args below meth c H locs ls Z C R Lk hS' hV hfin) (fun q => kf (fun h => q ((oi_lt rng_0 hx).mpr h)) G p l e s m args below meth c H locs ls Z C R Lk hS' hV hfin)
theorem r_icmp_le {x z : Int} {off : Int} (hd : Db y pc (.if_icmp .le off) off pc' tgt) (kt : x ≤ z → SPW y t0 tgt L S M r Mf) (kf : ¬ (x ≤ z) → SPW y t0 pc' L S M r Mf) : SPW y t0 pc L (vI z :: vI x :: S) M r Mf := by
  intro G p l e s m args below meth c H locs ls Z C R Lk hS hV hfin
  obtain ⟨hd, rfl, ht⟩ := hd
  have hz : rng z := vok_h hS
  have hx : rng x := vok_h (vok_t hS)
  have hS' := vok_t (vok_t hS)
  exact lv_icmp_le C.1 C.2.1 hd ht (fun q => kt (by simpa [oi_le hx hz] using q) G p l e s m args below meth c H locs ls Z C R Lk hS' hV hfin) (fun q => kf (by simpa [oi_le hx hz] using q) G p l e s m args below meth c H locs ls Z C R Lk hS' hV hfin)
theorem r_if_le {x : Int} {off : Int} (hd : Db y pc (.ifCond .le off) off pc' tgt) (kt : x ≤ 0 → SPW y t0 tgt L S M r Mf) (kf : ¬ (x ≤ 0) → SPW y t0 pc' L S M r Mf) : SPW y t0 pc L (vI x :: S) M r Mf := by
  intro G p l e s m args below meth c H locs ls Z C R Lk hS hV hfin
  obtain ⟨hd, rfl, ht⟩ := hd
  have hx : rng x := vok_h hS
  have hS' := vok_t hS
  exact lv_if_le C.1 C.2.1 hd ht (fun q => kt ((oi_le hx rng_0).mp q) G p l e s m args below meth c H locs ls Z C R Lk hS' hV hfin) (fun q => kf (fun h => q ((oi_le hx rng_0).mpr h)) G p l e s m args below meth c H locs ls Z C R Lk hS' hV hfin)
theorem r_ifnonnullR {o off : Int} (hd : Db y pc (.ifnonnull off) off pc' tgt) (kk : SPW y t0 tgt L S M r Mf) : SPW y t0 pc L (vR o :: S) M r Mf := by
  intro G p l e s m args below meth c H locs ls Z C R Lk hS hV hfin
  exact lv_ifnonnull C.1 C.2.1 hd.1 hd.2.2 (kk G p l e s m args below meth c H locs ls Z C R Lk (vok_t hS) hV hfin)
theorem r_ifnonnullN {off : Int} (hd : Db y pc (.ifnonnull off) off pc' tgt) (kk : SPW y t0 pc' L S M r Mf) : SPW y t0 pc L (vN :: S) M r Mf := by
  intro G p l e s m args below meth c H locs ls Z C R Lk hS hV hfin
  obtain ⟨hd, rfl, ht⟩ := hd
  exact lv_ifnonnullN C.1 C.2.1 hd (kk G p l e s m args below meth c H locs ls Z C R Lk (vok_t hS) hV hfin)
theorem r_ifnullR {o off : Int} (hd : Db y pc (.ifnull off) off pc' tgt) (kk : SPW y t0 pc' L S M r Mf) : SPW y t0 pc L (vR o :: S) M r Mf := by
  intro G p l e s m args below meth c H locs ls Z C R Lk hS hV hfin
  obtain ⟨hd, rfl, ht⟩ := hd
  exact lv_ifnull C.1 C.2.1 hd (kk G p l e s m args below meth c H locs ls Z C R Lk (vok_t hS) hV hfin)
theorem r_ifnullN {off : Int} (hd : Db y pc (.ifnull off) off pc' tgt) (kk : SPW y t0 tgt L S M r Mf) : SPW y t0 pc L (vN :: S) M r Mf := by
  intro G p l e s m args below meth c H locs ls Z C R Lk hS hV hfin
  exact lv_ifnullN C.1 C.2.1 hd.1 hd.2.2 (kk G p l e s m args below meth c H locs ls Z C R Lk (vok_t hS) hV hfin)
theorem adr_inj {G : Gg} {a b : Int} (ha : 0 ≤ a) (hb : 0 ≤ b) (h : adr G a = adr G b) : a = b := by
  rw [adr_pos ha, adr_pos hb] at h
  omega
theorem r_acmp_eq {a b off : Int} (hd : Db y pc (.if_acmp .eq off) off pc' tgt) (ha : 0 ≤ a) (hb : 0 ≤ b) (kt : a = b → SPW y t0 tgt L S M r Mf) (kf : ¬ a = b → SPW y t0 pc' L S M r Mf) : SPW y t0 pc L (vR b :: vR a :: S) M r Mf := by
  intro G p l e s m args below meth c H locs ls Z C R Lk hS hV hfin
  obtain ⟨hd, rfl, ht⟩ := hd
  have hS' := vok_t (vok_t hS)
  exact lv_acmp_eq (rx := some (adr G a)) (ry := some (adr G b)) C.1 C.2.1 hd ht (fun q => kt (adr_inj ha hb (Option.some.inj q)) G p l e s m args below meth c H locs ls Z C R Lk hS' hV hfin) (fun q => kf (fun z => q (by rw [z])) G p l e s m args below meth c H locs ls Z C R Lk hS' hV hfin)
theorem r_tabIn {x dflt lo hi off : Int} {offs : Array Int} {len : Nat} (hd : decode (mbc y) pc = .ok (.tableswitch dflt lo hi offs, len)) (h1 : lo ≤ x) (h2 : x ≤ hi) (ho : offs[(x - lo).toNat]? = some off) (ht : (pc : Int) + off = (tgt : Int)) (kk : SPW y t0 tgt L S M r Mf) : SPW y t0 pc L (vI x :: S) M r Mf := by
  intro G p l e s m args below meth c H locs ls Z C R Lk hS hV hfin
  have hx : rng x := vok_h hS
  exact lv_tableIn C.1 C.2.1 hd (by rw [oi_t hx]; omega) (by rw [oi_t hx]; omega) (by rw [oi_t hx]; exact ho) ht (kk G p l e s m args below meth c H locs ls Z C R Lk (vok_t hS) hV hfin)
theorem r_tabOut {x dflt lo hi : Int} {offs : Array Int} {len : Nat} (hd : decode (mbc y) pc = .ok (.tableswitch dflt lo hi offs, len)) (h : x < lo ∨ hi < x) (ht : (pc : Int) + dflt = (tgt : Int)) (kk : SPW y t0 tgt L S M r Mf) : SPW y t0 pc L (vI x :: S) M r Mf := by
  intro G p l e s m args below meth c H locs ls Z C R Lk hS hV hfin
  have hx : rng x := vok_h hS
  exact lv_tableOut C.1 C.2.1 hd (by rw [oi_t hx]; exact h) ht (kk G p l e s m args below meth c H locs ls Z C R Lk (vok_t hS) hV hfin)
theorem r_look {x dflt off : Int} {ps : Array (Int × Int)} {len : Nat} (hd : decode (mbc y) pc = .ok (.lookupswitch dflt ps, len)) (hp : (ps.toList.zip (ps.toList.drop 1)).all (fun (a, next) => a.1 < next.1) = true) (ho : Op.lookupswitch.offset ps.toList dflt x = off) (ht : (pc : Int) + off = (tgt : Int)) (kk : SPW y t0 tgt L S M r Mf) : SPW y t0 pc L (vI x :: S) M r Mf := by
  intro G p l e s m args below meth c H locs ls Z C R Lk hS hV hfin
  have hx : rng x := vok_h hS
  exact lv_lookup C.1 C.2.1 hd hp (by rw [oi_t hx]; exact ho) ht (kk G p l e s m args below meth c H locs ls Z C R Lk (vok_t hS) hV hfin)
theorem r_i2c {x : Int} (hd : Dc y pc .i2c 1 pc') (kk : SPW y t0 pc' L (vI (x % 65536) :: S) M r Mf) : SPW y t0 pc L (vI x :: S) M r Mf := by
  intro G p l e s m args below meth c H locs ls Z C R Lk hS hV hfin
  obtain ⟨hd, rfl⟩ := hd
  have hx : rng x := vok_h hS
  have a1 : 0 ≤ x % 65536 := Int.emod_nonneg x (by omega)
  have a2 : x % 65536 < 65536 := Int.emod_lt_of_pos x (by omega)
  have hq : rng (x % 65536) := ⟨by omega, by omega⟩
  refine lv_i2c (v := Int32.ofInt (x % 65536)) C.1 C.2.1 hd ?_ (kk G p l e s m args below meth c H locs ls Z C R Lk (vok_c (v := vI (x % 65536)) hq (vok_t hS)) hV hfin)
  rw [pk_char]
  have e1 : (Int32.ofInt x).toBitVec.toNat = (x % 4294967296).toNat := by
    show (BitVec.ofInt 32 x).toNat = _
    rw [BitVec.toNat_ofInt]
    rfl
  rw [e1, oi_nI]
  congr 1
  omega
theorem r_and31 {x : Int} (hd : Dc y pc .iand 1 pc') (kk : SPW y t0 pc' L (vI (x % 32) :: S) M r Mf) : SPW y t0 pc L (vI 31 :: vI x :: S) M r Mf := by
  intro G p l e s m args below meth c H locs ls Z C R Lk hS hV hfin
  obtain ⟨hd, rfl⟩ := hd
  have hx : rng x := vok_h (vok_t hS)
  have a1 : 0 ≤ x % 32 := Int.emod_nonneg x (by omega)
  have a2 : x % 32 < 32 := Int.emod_lt_of_pos x (by omega)
  have hq : rng (x % 32) := ⟨by omega, by omega⟩
  refine lv_iand C.1 C.2.1 hd ?_
  have e2 : Int32.ofInt x &&& Int32.ofInt 31 = Int32.ofInt (x % 32) := by
    rw [pk_and (Int32.ofInt x) (m := Int32.ofInt 31) 5 rfl]
    have e1 : (Int32.ofInt x).toBitVec.toNat = (x % 4294967296).toNat := by
      show (BitVec.ofInt 32 x).toNat = _
      rw [BitVec.toNat_ofInt]
      rfl
    rw [e1, oi_nI]
    congr 1
    omega
  rw [e2]
  exact kk G p l e s m args below meth c H locs ls Z C R Lk (vok_c (v := vI (x % 32)) hq (vok_t (vok_t hS))) hV hfin
theorem r_ixor {a b : Nat} (hd : Dc y pc .ixor 1 pc') (ha : a < 2147483648) (hb : b < 2147483648) (kk : SPW y t0 pc' L (vI ((a ^^^ b : Nat) : Int) :: S) M r Mf) : SPW y t0 pc L (vI (b : Int) :: vI (a : Int) :: S) M r Mf := by
  intro G p l e s m args below meth c H locs ls Z C R Lk hS hV hfin
  obtain ⟨hd, rfl⟩ := hd
  refine lv_ixor C.1 C.2.1 hd ?_
  have hlt : a ^^^ b < 2 ^ 31 := Nat.xor_lt_two_pow ha hb
  have e2 : Int32.ofInt (a : Int) ^^^ Int32.ofInt (b : Int) = Int32.ofInt ((a ^^^ b : Nat) : Int) := by
    apply Int32.toBitVec_inj.mp
    apply BitVec.eq_of_toNat_eq
    show (BitVec.ofInt 32 (a : Int) ^^^ BitVec.ofInt 32 (b : Int)).toNat = (BitVec.ofInt 32 ((a ^^^ b : Nat) : Int)).toNat
    rw [BitVec.toNat_xor, BitVec.toNat_ofInt, BitVec.toNat_ofInt, BitVec.toNat_ofInt]
    have k1 : ∀ z : Nat, z < 2147483648 → ((z : Int) % ((2 ^ 32 : Nat) : Int)).toNat = z := fun z hz => by omega
    rw [k1 a ha, k1 b hb, k1 _ hlt]
  rw [e2]
  exact kk G p l e s m args below meth c H locs ls Z C R Lk (vok_c (v := vI ((a ^^^ b : Nat) : Int)) ⟨by omega, by omega⟩ (vok_t (vok_t hS))) hV hfin
theorem r_ishl {a k : Nat} (hd : Dc y pc .ishl 1 pc') (hk : k < 32) (ha : a * 2 ^ k < 2147483648) (kk : SPW y t0 pc' L (vI ((a * 2 ^ k : Nat) : Int) :: S) M r Mf) : SPW y t0 pc L (vI (k : Int) :: vI (a : Int) :: S) M r Mf := by
  intro G p l e s m args below meth c H locs ls Z C R Lk hS hV hfin
  obtain ⟨hd, rfl⟩ := hd
  refine lv_ishl C.1 C.2.1 hd ?_
  have e1 : Int32.ofInt (k : Int) &&& 31 = nI k := by
    rw [show Int32.ofInt (k : Int) = nI k from rfl, pk_andN (by omega) 5 rfl]
    congr 1
    omega
  have e2 : Int32.ofInt (a : Int) <<< (Int32.ofInt (k : Int) &&& 31) = Int32.ofInt ((a * 2 ^ k : Nat) : Int) := by
    rw [e1]
    exact pk_shlN (nI k) k (by
      have h32 : ∀ j, j < 32 → ((nI j).toBitVec.smod 32).toNat = j := by decide
      exact h32 k hk) (by omega)
  rw [e2]
  exact kk G p l e s m args below meth c H locs ls Z C R Lk (vok_c (v := vI ((a * 2 ^ k : Nat) : Int)) ⟨by omega, by omega⟩ (vok_t (vok_t hS))) hV hfin
theorem r_ret (hd : decode (mbc y) pc = .ok (retI (mrt y), 1)) (hS0 : S = r.toList) (hM : M = Mf) : SPW y t0 pc L S M r Mf := by
  intro G p l e s m args below meth c H locs ls Z C R Lk hS hV hfin
  subst hM
  subst hS0
  exact hfin H locs ls pc R hV (fun v h => hS v (by rw [h]; exact List.mem_cons_self)) hd
end RU
end
section
/-! fields, arrays, new cells -/
section RM
variable {y : MI} {t0 pc pc' tgt : Nat} {L L' : List (Option Vv)} {S : List Vv} {ρ : Int → Int → Option Int} {t : Nat} {μ : Int → Int → Int} {Mf : Mm} {r : Option Vv}
theorem fvl_int {G : Gg} {M : Mm} {ci : Nat} {o : Int} {k : Nat} (h : tyk ci k ≠ 2) : fvl G M ci o k = .int (Int32.ofInt (M.2.2 o k)) := if_neg h
theorem fvl_ref {G : Gg} {M : Mm} {ci : Nat} {o : Int} {k : Nat} (h : tyk ci k = 2) : fvl G M ci o k = tv G (.inr (M.1 o k)) := if_pos h
theorem r_getI {o kI : Int} {ci k idx : Nat} (hd : Dc y pc (.getfield idx) 3 pc') (hl : Cond.fieldLink (mnm y).cls idx (cnm ci) (Tcl ci k).2.1 (Tcl ci k).2.2.1 ∈ lw_g) (hk : ((k : Nat) : Int) = kI) (hc : ci < 8 ∧ k < nfd ci ∧ tyk ci k ≠ 2) (hv : vk t o ci) (kk : SPW y t0 pc' L (vI (μ o kI) :: S) (ρ, t, μ) r Mf) : SPW y t0 pc L (vR o :: S) (ρ, t, μ) r Mf := by
  intro G p l e s m args below meth c H locs ls Z C R Lk hS hV hfin
  obtain ⟨hd, rfl⟩ := hd
  subst hk
  obtain ⟨h0, h1, h2⟩ := hv
  have he := wl_get (G := G) (M := (ρ, t, μ)) h0 h1
  rw [ce_obj h2 hc.1] at he
  refine va_get C.1 C.2.1 C.2.2.2.2.1 (fun w hw => lay_ok ci hc.1 w hw) C.2.2.2.1 C.2.2.2.2.2.1 R.1 o.toNat he (cls_ok ci hc.1) k hc.2.1 (C.2.2.2.2.1 _ hl) (fun _ h => h) (fvl_at hc.2.1) hd ?_
  rw [fvl_int hc.2.2]
  exact kk G p l e s m args below meth c H locs ls Z C R Lk (vok_c (v := vI _) (R.2.2.1 o k) (vok_t hS)) hV hfin
theorem r_getR {o : Int} {kI : Int} {ci k idx : Nat} {v : Option Int} (hd : Dc y pc (.getfield idx) 3 pc') (hl : Cond.fieldLink (mnm y).cls idx (cnm ci) (Tcl ci k).2.1 (Tcl ci k).2.2.1 ∈ lw_g) (hk : ((k : Nat) : Int) = kI) (hc : ci < 8 ∧ k < nfd ci ∧ tyk ci k = 2) (hv : vk t o ci) (hr : ρ o kI = v) (kk : SPW y t0 pc' L (.inr v :: S) (ρ, t, μ) r Mf) : SPW y t0 pc L (vR o :: S) (ρ, t, μ) r Mf := by
  intro G p l e s m args below meth c H locs ls Z C R Lk hS hV hfin
  obtain ⟨hd, rfl⟩ := hd
  subst hk
  subst hr
  obtain ⟨h0, h1, h2⟩ := hv
  have he := wl_get (G := G) (M := (ρ, t, μ)) h0 h1
  rw [ce_obj h2 hc.1] at he
  refine va_get C.1 C.2.1 C.2.2.2.2.1 (fun w hw => lay_ok ci hc.1 w hw) C.2.2.2.1 C.2.2.2.2.2.1 R.1 o.toNat he (cls_ok ci hc.1) k hc.2.1 (C.2.2.2.2.1 _ hl) (fun _ h => h) (fvl_at hc.2.1) hd ?_
  rw [fvl_ref hc.2.2]
  exact kk G p l e s m args below meth c H locs ls Z C R Lk (vok_c (v := .inr (ρ o k)) trivial (vok_t hS)) hV hfin
theorem upM_rng {μ : Int → Int → Int} {o k v : Int} (h : ∀ o k, rng (μ o k)) (hv : rng v) : ∀ o' k', rng (upM μ o k v o' k') := by
  intro o' k'
  unfold upM
  split
  · exact hv
  · exact h o' k'
theorem range_set {α : Type} {n k : Nat} {f g : Nat → α} (h : ∀ j, j ≠ k → g j = f j) (v : α) (hv : g k = v) : ((List.range n).map f).set k v = (List.range n).map g := by
  subst hv
  apply List.ext_getElem?
  intro i
  rw [List.getElem?_set]
  simp only [List.getElem?_map, List.length_map, List.length_range]
  by_cases hi : k = i
  · subst hi
    rw [if_pos rfl]
    by_cases hl : k < n
    · rw [if_pos hl, List.getElem?_range hl]
      rfl
    · rw [if_neg hl, List.getElem?_eq_none (by simp; omega)]
      rfl
  · rw [if_neg hi]
    by_cases hl : i < n
    · rw [List.getElem?_range hl, Option.map_some, Option.map_some, h i (fun q => hi q.symm)]
    · rw [List.getElem?_eq_none (by simp; omega)]
      rfl
theorem upM_ne {μ : Int → Int → Int} {o k v o' k' : Int} (h : o' ≠ o ∨ k' ≠ k) : upM μ o k v o' k' = μ o' k' := by
  unfold upM
  rw [if_neg (by omega)]
theorem upM_eq {μ : Int → Int → Int} {o k v : Int} : upM μ o k v o k = v := by
  unfold upM
  rw [if_pos ⟨rfl, rfl⟩]
theorem upR_ne {ρ : Int → Int → Option Int} {o k : Int} {v : Option Int} {o' k' : Int} (h : o' ≠ o ∨ k' ≠ k) : upR ρ o k v o' k' = ρ o' k' := by
  unfold upR
  rw [if_neg (by omega)]
theorem upR_eq {ρ : Int → Int → Option Int} {o k : Int} {v : Option Int} : upR ρ o k v o k = v := by
  unfold upR
  rw [if_pos ⟨rfl, rfl⟩]
theorem scr_up {G : Gg} {μ : Int → Int → Int} {o k v : Int} (h0 : 0 ≤ o) (h : scr G μ) : scr G (upM μ o k v) := ⟨by rw [upM_ne (Or.inl (by omega))]; exact h.1, fun j hj => by rw [upM_ne (Or.inl (by omega))]; exact h.2 j hj⟩
/-- an int field is written: the world behind it -/
theorem wl_putI {G : Gg} {o x : Int} {ci k : Nat} (hc : ci < 8 ∧ k < nfd ci ∧ tyk ci k ≠ 2) (hv : vk t o ci) : (wl G (ρ, t, μ)).set o.toNat (adr G o, .inr (ci, ((List.range (nfd ci)).map (fvl G (ρ, t, μ) ci o)).set k (.int (Int32.ofInt x)))) = wl G (ρ, t, upM μ o k x) := by
  obtain ⟨h0, h1, h2⟩ := hv
  refine wl_set (M := (ρ, t, μ)) (M' := (ρ, t, upM μ o k x)) h0 rfl (fun i hi => ce_congr (fun _ => rfl) (fun j => upM_ne (Or.inl hi))) ?_
  rw [ce_obj h2 hc.1]
  congr 2
  refine (range_set (g := fvl G (ρ, t, upM μ o k x) ci o) (fun j hj => ?_) _ ?_).symm
  · unfold fvl
    dsimp only
    rw [upM_ne (Or.inr (by omega))]
  · rw [fvl_int hc.2.2]
    dsimp only
    rw [upM_eq]
theorem wl_putR {G : Gg} {o : Int} {v : Option Int} {ci k : Nat} (hc : ci < 8 ∧ k < nfd ci ∧ tyk ci k = 2) (hv : vk t o ci) : (wl G (ρ, t, μ)).set o.toNat (adr G o, .inr (ci, ((List.range (nfd ci)).map (fvl G (ρ, t, μ) ci o)).set k (tv G (.inr v)))) = wl G (upR ρ o k v, t, μ) := by
  obtain ⟨h0, h1, h2⟩ := hv
  refine wl_set (M := (ρ, t, μ)) (M' := (upR ρ o k v, t, μ)) h0 rfl (fun i hi => ce_congr (fun j => upR_ne (Or.inl hi)) (fun _ => rfl)) ?_
  rw [ce_obj h2 hc.1]
  congr 2
  refine (range_set (g := fvl G (upR ρ o k v, t, μ) ci o) (fun j hj => ?_) _ ?_).symm
  · unfold fvl
    dsimp only
    rw [upR_ne (Or.inr (by omega))]
  · rw [fvl_ref hc.2.2]
    dsimp only
    rw [upR_eq]
theorem wl_putA {G : Gg} {o i x : Int} {q : Nat} (hq : ¬ q < 8 ∧ kt q < 2) (hv : vk t o q) (h0 : 0 ≤ i) : (wl G (ρ, t, μ)).set o.toNat (adr G o, .inl (gA G (kt q), kl q, .inl (upd (fun j => Int32.ofInt (μ o j)) i.toNat (Int32.ofInt x)))) = wl G (ρ, t, upM μ o i x) := by
  obtain ⟨h1, h2, h3⟩ := hv
  refine wl_set (M := (ρ, t, μ)) (M' := (ρ, t, upM μ o i x)) h1 rfl (fun z hz => ce_congr (fun _ => rfl) (fun j => upM_ne (Or.inl hz))) ?_
  rw [ce_int h3 hq.1 hq.2]
  congr 4
  funext j
  show Int32.ofInt (upM μ o i x o j) = upd (fun j => Int32.ofInt (μ o j)) i.toNat (Int32.ofInt x) j
  by_cases hj : j = i.toNat
  · subst hj
    rw [show ((i.toNat : Nat) : Int) = i from Int.toNat_of_nonneg h0, upM_eq]
    simp [upd]
  · rw [upM_ne (Or.inr (by omega))]
    simp [upd, hj]
theorem wl_putQ {G : Gg} {o i w : Int} {q : Nat} (hq : ¬ q < 8 ∧ ¬ kt q < 2) (hv : vk t o q) (h0 : 0 ≤ i) : (wl G (ρ, t, μ)).set o.toNat (adr G o, .inl (gA G (kt q), kl q, .inr (.inr (.inr (.inr (va_up (fun j => (ρ o j).map (adr G)) i.toNat (some (adr G w)))))))) = wl G (upR ρ o i (some w), t, μ) := by
  obtain ⟨h1, h2, h3⟩ := hv
  refine wl_set (M := (ρ, t, μ)) (M' := (upR ρ o i (some w), t, μ)) h1 rfl (fun z hz => ce_congr (fun j => upR_ne (Or.inl hz)) (fun _ => rfl)) ?_
  rw [ce_ref h3 hq.1 hq.2]
  congr 7
  funext j
  show (upR ρ o i (some w) o j).map (adr G) = va_up (fun j => (ρ o j).map (adr G)) i.toNat (some (adr G w)) j
  by_cases hj : j = i.toNat
  · subst hj
    rw [show ((i.toNat : Nat) : Int) = i from Int.toNat_of_nonneg h0, upR_eq]
    simp [va_up]
  · rw [upR_ne (Or.inr (by omega))]
    simp [va_up, hj]
/-- an int or boolean field, not final or a constructor's own -/
def putOK (ci k : Nat) (x : Int) : Prop := (tyk ci k = 0 ∧ tyc ci k = .int) ∨ (tyk ci k = 1 ∧ tyc ci k = .boolean ∧ (x = 0 ∨ x = 1))
theorem putOK.fits {ci k : Nat} {x : Int} (h : putOK ci k x) : narrow (tyc ci k) (.int (Int32.ofInt x)) = .int (Int32.ofInt x) ∧ fits (tyc ci k) (.int (Int32.ofInt x)) = true ∧ tyk ci k ≠ 2 := by
  rcases h with ⟨h1, h2⟩ | ⟨h1, h2, rfl | rfl⟩
  · rw [h2]
    exact ⟨rfl, rfl, by omega⟩
  · rw [h2]
    exact ⟨rfl, rfl, by omega⟩
  · rw [h2]
    exact ⟨rfl, rfl, by omega⟩
theorem fs_len {G : Gg} {M : Mm} {ci : Nat} {o : Int} : ((List.range (nfd ci)).map (fvl G M ci o)).length = nfd ci := by rw [List.length_map, List.length_range]
theorem r_putI {o x kI : Int} {ci k idx : Nat} (hd : Dc y pc (.putfield idx) 3 pc') (hl : Cond.fieldLink (mnm y).cls idx (cnm ci) (Tcl ci k).2.1 (Tcl ci k).2.2.1 ∈ lw_g) (hk : ((k : Nat) : Int) = kI) (hc : ci < 8 ∧ k < nfd ci) (hf : (Tcl ci k).2.2.2 = false) (hx : putOK ci k x) (hv : vk t o ci) (kk : SPW y t0 pc' L S (ρ, t, upM μ o kI x) r Mf) : SPW y t0 pc L (vI x :: vR o :: S) (ρ, t, μ) r Mf := by
  intro G p l e s m args below meth c H locs ls Z C R Lk hS hV hfin
  obtain ⟨hd, rfl⟩ := hd
  subst hk
  obtain ⟨p1, p2, p3⟩ := hx.fits
  have hv0 := hv
  obtain ⟨h0, h1, h2⟩ := hv
  have he := wl_get (G := G) (M := (ρ, t, μ)) h0 h1
  rw [ce_obj h2 hc.1] at he
  have hK := C.2.2.2.2.2.1
  have hts := C.2.2.2.2.1
  have hin : ∀ w ∈ u_ws (cnm ci) (Tcl ci) (nfd ci), w ∈ lw_g := lay_ok ci hc.1
  have hap := va_apart (own := (mnm y).cls) hts hin (tyc ci) (tyc_ok ci hc.1) (nm_ok ci hc.1) hK (cls_ok ci hc.1)
  obtain ⟨rr, hr1, cell, q1, q2, q3, q4⟩ := R.1 _ _ he
  have hr : rr = (cnm ci, Tcl ci, nfd ci) := Option.some.inj (hr1.symm.trans (cls_ok ci hc.1))
  subst hr
  obtain ⟨hSl, hfc, kC, hkC, hkind⟩ := hK.1 ci _ (cls_ok ci hc.1)
  obtain ⟨cf, kf, fi, f, hi, hsl⟩ := hSl k hc.2
  have hlay := hts _ (hin _ (u_in_lay hc.2))
  unfold u_lay at hlay
  rw [if_neg (by rw [hf]; decide)] at hlay
  have hst := (u_facts hfc hkC (u_lays hts hin hc.2) hi).1
  have h6 := u_store hfc hkC hkind hlay hi (tyc_ok ci hc.1 k hc.2) p1 p2
  refine W.putK C.1 C.2.1 (f := f) ⟨C.2.2.2.1, hts _ hl, ⟨_, _, _, hi⟩, hst⟩ (by rw [q2]; exact h6) q1 q3 (by rw [hsl]; exact k2_hasslot (q4 k hc.2)) rfl rfl hd fun H' e1 e2 e3 => ?_
  rw [hsl] at e1 ⊢
  have hat : va_at (gD G) cls_l (adr G o, .inr (ci, ((List.range (nfd ci)).map (fvl G (ρ, t, μ) ci o)).set k (.int (Int32.ofInt x)))) H' := ⟨_, cls_ok ci hc.1, t_OB.to (V := updV (vp_V ((List.range (nfd ci)).map (fvl G (ρ, t, μ) ci o))) k (.int (Int32.ofInt x))) ⟨_, e1, q2, q3, t_set q4 hap hc.2 _⟩ (fun j _ => vp_updV_set (by rw [fs_len]; exact hc.2) _ j)⟩
  have hP' := R.1.set wl_D he hat e3
  rw [wl_putI ⟨hc.1, hc.2, p3⟩ hv0] at hP'
  exact kk G p l e s m args below meth c H' _ ls Z C ⟨hP', fun q => e2.trans (R.2.1 q), ⟨upM_rng R.2.2.1 (vok_h (v := vI x) hS), scr_up hv0.1 R.2.2.2⟩⟩ Lk (vok_t (vok_t hS)) (hV.put e2 e3 (wl_D.2 _ _ he)) hfin
theorem r_putIF {o x kI : Int} {ci k idx : Nat} (hd : Dc y pc (.putfield idx) 3 pc') (hl : Cond.fieldLink (mnm y).cls idx (cnm ci) (Tcl ci k).2.1 (Tcl ci k).2.2.1 ∈ lw_g) (hk : ((k : Nat) : Int) = kI) (hc : ci < 8 ∧ k < nfd ci) (hf : (Tcl ci k).2.2.2 = true) (hin0 : (mnm y).name = "<init>") (hown : cnm ci = (mnm y).cls) (hx : putOK ci k x) (hv : vk t o ci) (kk : SPW y t0 pc' L S (ρ, t, upM μ o kI x) r Mf) : SPW y t0 pc L (vI x :: vR o :: S) (ρ, t, μ) r Mf := by
  intro G p l e s m args below meth c H locs ls Z C R Lk hS hV hfin
  obtain ⟨hd, rfl⟩ := hd
  subst hk
  obtain ⟨p1, p2, p3⟩ := hx.fits
  have hv0 := hv
  obtain ⟨h0, h1, h2⟩ := hv
  have he := wl_get (G := G) (M := (ρ, t, μ)) h0 h1
  rw [ce_obj h2 hc.1] at he
  have hK := C.2.2.2.2.2.1
  have hts := C.2.2.2.2.1
  have hin : ∀ w ∈ u_ws (cnm ci) (Tcl ci) (nfd ci), w ∈ lw_g := lay_ok ci hc.1
  have hap := va_apart (own := (mnm y).cls) hts hin (tyc ci) (tyc_ok ci hc.1) (nm_ok ci hc.1) hK (cls_ok ci hc.1)
  obtain ⟨rr, hr1, cell, q1, q2, q3, q4⟩ := R.1 _ _ he
  have hr : rr = (cnm ci, Tcl ci, nfd ci) := Option.some.inj (hr1.symm.trans (cls_ok ci hc.1))
  subst hr
  obtain ⟨hSl, hfc, kC, hkC, hkind⟩ := hK.1 ci _ (cls_ok ci hc.1)
  obtain ⟨cf, kf, fi, f, hi, hsl⟩ := hSl k hc.2
  have hst := (u_facts hfc hkC (u_lays hts hin hc.2) hi).1
  have h6 := u_fits hfc hkC hkind (u_lays hts hin hc.2) hi (tyc_ok ci hc.1 k hc.2) p1 p2
  have hlay := hts _ (hin _ (u_in_lay hc.2))
  unfold u_lay at hlay
  rw [if_pos hf] at hlay
  have hcf : m.cls = cf := by
    obtain ⟨_, _, c', _, _, _, -, -, hf', -, -, -, hown2, -⟩ := Cond.laysFinal_spec hlay
    have e1 : c' = cf := by have := hi.symm.trans hf'; simp at this; exact this.1.symm
    rw [show (Tcl ci k).1 = (mnm y).cls from hown] at hown2
    rw [← e1]; exact Option.some.inj (C.2.2.2.1.symm.trans hown2)
  refine W.putFinK C.1 C.2.1 C.2.2.2.1 (hts _ hl) hi hst hcf (C.2.2.2.2.2.2.2.1 hin0) (by rw [q2]; exact h6) q1 q3 (by rw [hsl]; exact k2_hasslot (q4 k hc.2)) rfl rfl hd fun H' e1 e2 e3 => ?_
  rw [hsl] at e1 ⊢
  have hat : va_at (gD G) cls_l (adr G o, .inr (ci, ((List.range (nfd ci)).map (fvl G (ρ, t, μ) ci o)).set k (.int (Int32.ofInt x)))) H' := ⟨_, cls_ok ci hc.1, t_OB.to (V := updV (vp_V ((List.range (nfd ci)).map (fvl G (ρ, t, μ) ci o))) k (.int (Int32.ofInt x))) ⟨_, e1, q2, q3, t_set q4 hap hc.2 _⟩ (fun j _ => vp_updV_set (by rw [fs_len]; exact hc.2) _ j)⟩
  have hP' := R.1.set wl_D he hat e3
  rw [wl_putI ⟨hc.1, hc.2, p3⟩ hv0] at hP'
  exact kk G p l e s m args below meth c H' _ ls Z C ⟨hP', fun q => e2.trans (R.2.1 q), ⟨upM_rng R.2.2.1 (vok_h (v := vI x) hS), scr_up hv0.1 R.2.2.2⟩⟩ Lk (vok_t (vok_t hS)) (hV.put e2 e3 (wl_D.2 _ _ he)) hfin
/-- a reference field -/
def putRK (ci k : Nat) : Prop := (∃ C, tyc ci k = .object C) ∨ ∃ u, tyc ci k = .array u
theorem putRK.fits {ci k : Nat} {a : Nat} (h : putRK ci k) : narrow (tyc ci k) (.ref a) = .ref a ∧ fits (tyc ci k) (.ref a) = true := by
  rcases h with ⟨C, h⟩ | ⟨u, h⟩ <;> rw [h] <;> exact ⟨rfl, rfl⟩
theorem r_putRF {o w kI : Int} {ci k idx : Nat} (hd : Dc y pc (.putfield idx) 3 pc') (hl : Cond.fieldLink (mnm y).cls idx (cnm ci) (Tcl ci k).2.1 (Tcl ci k).2.2.1 ∈ lw_g) (hk : ((k : Nat) : Int) = kI) (hc : ci < 8 ∧ k < nfd ci ∧ tyk ci k = 2) (hf : (Tcl ci k).2.2.2 = true) (hin0 : (mnm y).name = "<init>") (hown : cnm ci = (mnm y).cls) (hx : putRK ci k) (hv : vk t o ci) (kk : SPW y t0 pc' L S (upR ρ o kI (some w), t, μ) r Mf) : SPW y t0 pc L (vR w :: vR o :: S) (ρ, t, μ) r Mf := by
  intro G p l e s m args below meth c H locs ls Z C R Lk hS hV hfin
  obtain ⟨hd, rfl⟩ := hd
  subst hk
  obtain ⟨p1, p2⟩ := hx.fits (a := adr G w)
  have hv0 := hv
  obtain ⟨h0, h1, h2⟩ := hv
  have he := wl_get (G := G) (M := (ρ, t, μ)) h0 h1
  rw [ce_obj h2 hc.1] at he
  have hK := C.2.2.2.2.2.1
  have hts := C.2.2.2.2.1
  have hin : ∀ w ∈ u_ws (cnm ci) (Tcl ci) (nfd ci), w ∈ lw_g := lay_ok ci hc.1
  have hap := va_apart (own := (mnm y).cls) hts hin (tyc ci) (tyc_ok ci hc.1) (nm_ok ci hc.1) hK (cls_ok ci hc.1)
  obtain ⟨rr, hr1, cell, q1, q2, q3, q4⟩ := R.1 _ _ he
  have hr : rr = (cnm ci, Tcl ci, nfd ci) := Option.some.inj (hr1.symm.trans (cls_ok ci hc.1))
  subst hr
  obtain ⟨hSl, hfc, kC, hkC, hkind⟩ := hK.1 ci _ (cls_ok ci hc.1)
  obtain ⟨cf, kf, fi, f, hi, hsl⟩ := hSl k hc.2.1
  have hst := (u_facts hfc hkC (u_lays hts hin hc.2.1) hi).1
  have h6 := u_fits hfc hkC hkind (u_lays hts hin hc.2.1) hi (tyc_ok ci hc.1 k hc.2.1) p1 p2
  have hlay := hts _ (hin _ (u_in_lay hc.2.1))
  unfold u_lay at hlay
  rw [if_pos hf] at hlay
  have hcf : m.cls = cf := by
    obtain ⟨_, _, c', _, _, _, -, -, hf', -, -, -, hown2, -⟩ := Cond.laysFinal_spec hlay
    have e1 : c' = cf := by have := hi.symm.trans hf'; simp at this; exact this.1.symm
    rw [show (Tcl ci k).1 = (mnm y).cls from hown] at hown2
    rw [← e1]; exact Option.some.inj (C.2.2.2.1.symm.trans hown2)
  refine W.putFinK C.1 C.2.1 C.2.2.2.1 (hts _ hl) hi hst hcf (C.2.2.2.2.2.2.2.1 hin0) (by rw [q2]; exact h6) q1 q3 (by rw [hsl]; exact k2_hasslot (q4 k hc.2.1)) rfl rfl hd fun H' e1 e2 e3 => ?_
  rw [hsl] at e1 ⊢
  have hat : va_at (gD G) cls_l (adr G o, .inr (ci, ((List.range (nfd ci)).map (fvl G (ρ, t, μ) ci o)).set k (.ref (adr G w)))) H' := ⟨_, cls_ok ci hc.1, t_OB.to (V := updV (vp_V ((List.range (nfd ci)).map (fvl G (ρ, t, μ) ci o))) k (.ref (adr G w))) ⟨_, e1, q2, q3, t_set q4 hap hc.2.1 _⟩ (fun j _ => vp_updV_set (by rw [fs_len]; exact hc.2.1) _ j)⟩
  have hP' := R.1.set wl_D he hat e3
  have hP' : va_P (gD G) cls_l ((wl G (ρ, t, μ)).set o.toNat (adr G o, .inr (ci, ((List.range (nfd ci)).map (fvl G (ρ, t, μ) ci o)).set k (tv G (.inr (some w)))))) H' := hP'
  rw [wl_putR hc hv0] at hP'
  exact kk G p l e s m args below meth c H' _ ls Z C ⟨hP', fun q => e2.trans (R.2.1 q), R.2.2⟩ Lk (vok_t (vok_t hS)) (hV.put e2 e3 (wl_D.2 _ _ he)) hfin
theorem ix_ok {i : Int} {n : Nat} (h : rng i) (h0 : 0 ≤ i) (hn : i < n) : vp_in (Int32.ofInt i) n ∧ (Int32.ofInt i).toNatClampNeg = i.toNat := ⟨oi_in h h0 hn, oi_cl h⟩
theorem tys_at {G : Gg} (q : Nat) (h : kt q < 6) : (tys_l G)[kt q]? = some (gA G (kt q), ety (kt q)) := by
  generalize kt q = z at h ⊢
  rcases (show z = 0 ∨ z = 1 ∨ z = 2 ∨ z = 3 ∨ z = 4 ∨ z = 5 by omega) with rfl | rfl | rfl | rfl | rfl | rfl <;> rfl
theorem r_iald {o i : Int} {q : Nat} (hd : Dc y pc .iaload 1 pc') (hq : 8 ≤ q ∧ kt q = 0) (hv : vk t o q) (h0 : 0 ≤ i) (hn : i < (kl q : Nat)) (kk : SPW y t0 pc' L (vI (μ o i) :: S) (ρ, t, μ) r Mf) : SPW y t0 pc L (vI i :: vR o :: S) (ρ, t, μ) r Mf := by
  intro G p l e s m args below meth c H locs ls Z C R Lk hS hV hfin
  obtain ⟨hd, rfl⟩ := hd
  obtain ⟨h1, h2, h3⟩ := hv
  have he := wl_get (G := G) (M := (ρ, t, μ)) h1 h2
  rw [ce_int h3 (by omega) (by omega)] at he
  obtain ⟨e1, e2⟩ := ix_ok (n := kl q) (vok_h hS) h0 hn
  refine va_iald C.1 C.2.1 C.2.2.2.2.2.1 R.1 o.toNat (kt q) he (by rw [tys_at q (by omega), hq.2]; rfl) e1 hd ?_
  rw [e2, Int.toNat_of_nonneg h0]
  exact kk G p l e s m args below meth c H locs ls Z C R Lk (vok_c (v := vI (μ o i)) (R.2.2.1 o i) (vok_t (vok_t hS))) hV hfin
theorem r_cald {o i : Int} {q : Nat} (hd : Dc y pc .caload 1 pc') (hq : 8 ≤ q ∧ kt q = 1) (hv : vk t o q) (h0 : 0 ≤ i) (hn : i < (kl q : Nat)) (kk : SPW y t0 pc' L (vI (μ o i) :: S) (ρ, t, μ) r Mf) : SPW y t0 pc L (vI i :: vR o :: S) (ρ, t, μ) r Mf := by
  intro G p l e s m args below meth c H locs ls Z C R Lk hS hV hfin
  obtain ⟨hd, rfl⟩ := hd
  obtain ⟨h1, h2, h3⟩ := hv
  have he := wl_get (G := G) (M := (ρ, t, μ)) h1 h2
  rw [ce_int h3 (by omega) (by omega)] at he
  obtain ⟨e1, e2⟩ := ix_ok (n := kl q) (vok_h hS) h0 hn
  refine va_cald C.1 C.2.1 C.2.2.2.2.2.1 R.1 o.toNat (kt q) he (by rw [tys_at q (by omega), hq.2]; rfl) e1 hd ?_
  rw [e2, Int.toNat_of_nonneg h0]
  exact kk G p l e s m args below meth c H locs ls Z C R Lk (vok_c (v := vI (μ o i)) (R.2.2.1 o i) (vok_t (vok_t hS))) hV hfin
theorem ety_obj {a : Nat} (h1 : 2 ≤ a) : ∃ C, ety a = .object C := by
  unfold ety
  split <;> first | omega | exact ⟨_, rfl⟩
theorem r_aald {o i : Int} {q : Nat} {v : Option Int} (hd : Dc y pc .aaload 1 pc') (hq : 8 ≤ q ∧ 2 ≤ kt q ∧ kt q < 6) (hv : vk t o q) (h0 : 0 ≤ i) (hn : i < (kl q : Nat)) (hr : ρ o i = v) (kk : SPW y t0 pc' L (.inr v :: S) (ρ, t, μ) r Mf) : SPW y t0 pc L (vI i :: vR o :: S) (ρ, t, μ) r Mf := by
  intro G p l e s m args below meth c H locs ls Z C R Lk hS hV hfin
  obtain ⟨hd, rfl⟩ := hd
  subst hr
  obtain ⟨h1, h2, h3⟩ := hv
  have he := wl_get (G := G) (M := (ρ, t, μ)) h1 h2
  rw [ce_ref h3 (by omega) (by omega)] at he
  obtain ⟨e1, e2⟩ := ix_ok (n := kl q) (vok_h hS) h0 hn
  obtain ⟨cn, hcn⟩ := ety_obj hq.2.1
  refine va_aldq (C := cn) C.1 C.2.1 C.2.2.2.2.2.1 R.1 o.toNat (kt q) he (by rw [tys_at q hq.2.2, hcn]) e1 hd ?_
  rw [e2, Int.toNat_of_nonneg h0]
  exact kk G p l e s m args below meth c H locs ls Z C R Lk (vok_c (v := .inr (ρ o i)) trivial (vok_t (vok_t hS))) hV hfin
theorem r_alen {o : Int} {q : Nat} {n : Int} (hd : Dc y pc .arraylength 1 pc') (hq : 8 ≤ q ∧ kt q < 6) (hv : vk t o q) (hn : ((kl q : Nat) : Int) = n) (hnr : rng n) (kk : SPW y t0 pc' L (vI n :: S) (ρ, t, μ) r Mf) : SPW y t0 pc L (vR o :: S) (ρ, t, μ) r Mf := by
  intro G p l e s m args below meth c H locs ls Z C R Lk hS hV hfin
  obtain ⟨hd, rfl⟩ := hd
  subst hn
  obtain ⟨h1, h2, h3⟩ := hv
  have he := wl_get (G := G) (M := (ρ, t, μ)) h1 h2
  have k := kk G p l e s m args below meth c H locs ls Z C R Lk (vok_c (v := vI _) hnr (vok_t hS)) hV hfin
  by_cases hz : kt q < 2
  · rw [ce_int h3 (by omega) hz] at he
    exact va_alen C.1 C.2.1 C.2.2.2.2.2.1 R.1 o.toNat (kt q) he (tys_at q hq.2) rfl hd k
  · rw [ce_ref h3 (by omega) hz] at he
    exact va_alen C.1 C.2.1 C.2.2.2.2.2.1 R.1 o.toNat (kt q) he (tys_at q hq.2) rfl hd k
theorem r_iast {o i x : Int} {q : Nat} (hd : Dc y pc .iastore 1 pc') (hq : 8 ≤ q ∧ kt q = 0) (hv : vk t o q) (h0 : 0 ≤ i) (hn : i < (kl q : Nat)) (kk : SPW y t0 pc' L S (ρ, t, upM μ o i x) r Mf) : SPW y t0 pc L (vI x :: vI i :: vR o :: S) (ρ, t, μ) r Mf := by
  intro G p l e s m args below meth c H locs ls Z C R Lk hS hV hfin
  obtain ⟨hd, rfl⟩ := hd
  have hv0 := hv
  obtain ⟨h1, h2, h3⟩ := hv
  have he := wl_get (G := G) (M := (ρ, t, μ)) h1 h2
  rw [ce_int h3 (by omega) (by omega)] at he
  obtain ⟨e1, e2⟩ := ix_ok (n := kl q) (vok_h (vok_t hS)) h0 hn
  have ht := (C.2.2.2.2.2.1.2 (kt q) _ (tys_at q (by omega))).1
  rw [hq.2] at ht
  rw [show gA G 0 = gA G (kt q) by rw [hq.2]] at ht
  refine W.iast C.1 C.2.1 (R.1 o.toNat _ he) (ht (kl q) (fun j => .int (Int32.ofInt (μ o j)))) (fun z => by cases z) (by show ¬ (_ < 0 ∨ (arrV _ _ _).slots.size ≤ _); rw [arrV_size]; exact e1) rfl rfl hd fun H1 f1 f2 f3 => ?_
  have hat : va_at (gD G) cls_l (adr G o, .inl (gA G (kt q), kl q, .inl (upd (fun j => Int32.ofInt (μ o j)) i.toNat (Int32.ofInt x)))) H1 := by
    show H1[adr G o]? = some (vp_cell _ _)
    rw [f1]
    rw [vp_cell_i, vp_cell_i, arrV_store]
    congr 2
    funext z
    rw [e2]
    by_cases hz : z = i.toNat
    · subst hz
      simp [updV, upd]
    · simp [updV, upd, hz]
  have hP' := R.1.set wl_D he hat f3
  rw [wl_putA ⟨by omega, by omega⟩ hv0 h0] at hP'
  exact kk G p l e s m args below meth c H1 _ ls Z C ⟨hP', fun z => f2.trans (R.2.1 z), ⟨upM_rng R.2.2.1 (vok_h (v := vI x) hS), scr_up hv0.1 R.2.2.2⟩⟩ Lk (vok_t (vok_t (vok_t hS))) (hV.put f2 f3 (wl_D.2 _ _ he)) hfin
theorem r_cast {o i x : Int} {q : Nat} (hd : Dc y pc .castore 1 pc') (hq : 8 ≤ q ∧ kt q = 1) (hv : vk 226 o q) (h0 : 0 ≤ i) (hn : i < (kl q : Nat)) (hx : 0 ≤ x ∧ x < 65536) (kk : SPW y t0 pc' L S (ρ, 226, upM μ o i x) r Mf) : SPW y t0 pc L (vI x :: vI i :: vR o :: S) (ρ, 226, μ) r Mf := by
  intro G p l e s m args below meth c H locs ls Z C R Lk hS hV hfin
  obtain ⟨hd, rfl⟩ := hd
  have hv0 := hv
  obtain ⟨h1, h2, h3⟩ := hv
  have he := wl_get (G := G) (M := (ρ, 226, μ)) h1 h2
  rw [ce_int h3 (by omega) (by omega)] at he
  obtain ⟨e1, e2⟩ := ix_ok (n := kl q) (vok_h (vok_t hS)) h0 hn
  refine va_cast C.1 C.2.1 C.2.2.2.2.2.1 R.1 wl_D hV o.toNat (kt q) he (by rw [tys_at q (by omega), hq.2]; rfl) e1 hd (fun H1 locs1 hP' hD' hV' => ?_)
  have e3 : vp_nar .char (Int32.ofInt x) = Int32.ofInt x := by
    have := (pk_charN (q := x.toNat) (by omega)).1
    rw [oi_nI, Int.toNat_of_nonneg hx.1] at this
    unfold vp_nar
    rw [this]
  rw [e2, e3, wl_putA ⟨by omega, by omega⟩ hv0 h0] at hP'
  exact kk G p l e s m args below meth c H1 locs1 ls Z C ⟨hP', fun z => absurd z (Nat.lt_irrefl 226), ⟨upM_rng R.2.2.1 (vok_h (v := vI x) hS), scr_up hv0.1 R.2.2.2⟩⟩ Lk (vok_t (vok_t (vok_t hS))) hV' hfin
theorem r_aast {o i w : Int} {q ci : Nat} (hd : Dc y pc .aastore 1 pc') (hq : 8 ≤ q ∧ 2 ≤ kt q ∧ kt q < 6) (hv : vk t o q) (h0 : 0 ≤ i) (hn : i < (kl q : Nat)) (hc : ci < 8) (hw : vk t w ci) (hty : ety (kt q) = .object (cnm ci)) (kk : SPW y t0 pc' L S (upR ρ o i (some w), t, μ) r Mf) : SPW y t0 pc L (vR w :: vI i :: vR o :: S) (ρ, t, μ) r Mf := by
  intro G p l e s m args below meth c H locs ls Z C R Lk hS hV hfin
  obtain ⟨hd, rfl⟩ := hd
  have hv0 := hv
  obtain ⟨h1, h2, h3⟩ := hv
  have he := wl_get (G := G) (M := (ρ, t, μ)) h1 h2
  rw [ce_ref h3 (by omega) (by omega)] at he
  have hew := wl_get (G := G) (M := (ρ, t, μ)) hw.1 hw.2.1
  rw [ce_obj hw.2.2 hc] at hew
  obtain ⟨e1, e2⟩ := ix_ok (n := kl q) (vok_h (vok_t hS)) h0 hn
  have hlt : (Int32.ofInt i).toNatClampNeg < kl q := Nat.not_le.mp fun z => e1 (Or.inr z)
  have hneg : ¬ Int32.ofInt i < 0 := fun z => e1 (Or.inl z)
  have hK := C.2.2.2.2.2.1
  obtain ⟨rr, hr1, cellV, g1, g2, g3, -⟩ := R.1 _ _ hew
  have hcls := (hK.1 ci _ (cls_ok ci hc)).2
  have hra := (hK.2 (kt q) _ (tys_at q hq.2.2)).2
  rw [hty] at hra
  obtain ⟨kA, comp, k1, k2, k3, -⟩ := hra
  have hcomp : comp = (gD G).1 ci := Option.some.inj (k3.symm.trans hcls.1)
  subst hcomp
  obtain ⟨kC, hkC, -⟩ := hcls.2
  refine W.aast C.1 C.2.1 (R.1 _ _ he) (fun q h => by cases h) (fun h => by cases h) k1 k2 rfl hkC ⟨hneg, by show _ < (arrV _ _ _).slots.size; rw [arrV_size]; exact hlt⟩ g1 (fun q h => by rw [g3] at h; cases h) (by rw [g2]; exact hkC) (by rw [g2]; exact va_assign hcls) rfl rfl hd fun H1 f1 f2 f3 => ?_
  have hat : va_at (gD G) cls_l (adr G o, .inl (gA G (kt q), kl q, .inr (.inr (.inr (.inr (va_up (fun j => (ρ o j).map (adr G)) i.toNat (some (adr G w)))))))) H1 := by
    show H1[adr G o]? = some (vp_cell _ _)
    rw [f1]
    rw [vp_cell_q, vp_cell_q, arrV_store]
    congr 2
    funext z
    rw [e2]
    by_cases hz : z = i.toNat
    · subst hz
      simp [updV, va_up, va_rf]
    · simp [updV, va_up, hz]
  have hP' := R.1.set wl_D he hat f3
  rw [wl_putQ ⟨by omega, by omega⟩ hv0 h0] at hP'
  exact kk G p l e s m args below meth c H1 _ ls Z C ⟨hP', fun z => f2.trans (R.2.1 z), R.2.2⟩ Lk (vok_t (vok_t (vok_t hS))) (hV.put f2 f3 (wl_D.2 _ _ he)) hfin
end RM
end
section
/-! new cells, calls, and from a walk to a contract -/
theorem slt_le {a b : Nat} (h : a ≤ b) : slt a ≤ slt b := by
  induction b with
  | zero => rw [Nat.le_zero.mp h]; exact Nat.le_refl _
  | succ n ih =>
    by_cases e : a = n + 1
    · rw [e]; exact Nat.le_refl _
    · exact Nat.le_trans (ih (by omega)) (Nat.le_add_right _ _)
/-- there is room in y's own count, from t0 objects up to t -/
def rmOK (y : MI) (t0 t : Nat) : Prop := t - t0 ≤ (mrm y).cells ∧ slt t - slt t0 ≤ (mrm y).slots
theorem rmOK_self (y : MI) (t : Nat) : rmOK y t t := ⟨by rw [Nat.sub_self]; exact Nat.zero_le _, by rw [Nat.sub_self]; exact Nat.zero_le _⟩
theorem wl_push {G : Gg} {ρ : Int → Int → Option Int} {t : Nat} {μ : Int → Int → Int} : wl G (ρ, t + 1, μ) = wl G (ρ, t, μ) ++ [(gh G + t, ce G (ρ, t, μ) (t : Int))] := by
  unfold wl
  dsimp only
  rw [List.range_succ, List.map_append]
  rfl
theorem adr_nat {G : Gg} (t : Nat) : adr G (t : Int) = gh G + t := by
  rw [adr_pos (by omega)]
  rfl
section RN
variable {y : MI} {t0 pc pc' tgt : Nat} {L L' : List (Option Vv)} {S : List Vv} {ρ : Int → Int → Option Int} {t : Nat} {μ : Int → Int → Int} {Mf : Mm} {r : Option Vv}
theorem r_new {idx ci : Nat} (hd : Dc y pc (.new idx) 3 pc') (hcl : Cond.classLink (mnm y).cls idx (cnm ci) ∈ lw_g) (his : Cond.instantiable (cnm ci) (nfd ci) ∈ lw_g) (hini : Cond.initialized (cnm ci) ∈ lw_g) (hc : ci < 8 ∧ kd t = ci ∧ t < 226 ∧ t0 ≤ t) (hty : ∀ k, k < nfd ci → defaultValue (tyc ci k) = if tyk ci k = 2 then .null else .int 0)
    (hz : (∀ k : Nat, μ t k = 0) ∧ ∀ k : Nat, ρ t k = none) (hroom : rmOK y t0 (t + 1)) (kk : SPW y t0 pc' L (vR t :: S) (ρ, t + 1, μ) r Mf) : SPW y t0 pc L S (ρ, t, μ) r Mf := by
  intro G p l e s m args below meth c H locs ls Z C R Lk hS hV hfin
  obtain ⟨hd, rfl⟩ := hd
  have hsz := R.2.1 hc.2.2.1
  have hK := C.2.2.2.2.2.1
  have hts := C.2.2.2.2.1
  have hKn := hK.1 ci _ (cls_ok ci hc.1)
  have hso : szo t = nfd ci := by unfold szo; rw [hc.2.1, if_pos hc.1]
  have hmon := slt_le hc.2.2.2
  have hsl : slt (t + 1) = slt t + nfd ci := by rw [slt, hso]
  have e1 : t - t0 + 1 = t + 1 - t0 := by omega
  have e2 : slt t - slt t0 + nfd ci = slt (t + 1) - slt t0 := by rw [hsl]; omega
  refine W.newcK C.1 C.2.1 C.2.2.2.1 (hts _ hcl) (hts _ his) (hts _ hini) rfl hd (by show t - t0 + 1 ≤ _; rw [e1]; exact hroom.1) (by show slt t - slt t0 + nfd ci ≤ _; rw [e2]; exact hroom.2) hKn.2.1 rfl fun H1 kC hkC f1 f2 f3 => ?_
  have hob := u_born (tyc ci) hts (lay_ok ci hc.1) hKn hkC f1 (tyc_ok ci hc.1)
  have hkeep : ∀ (k : Nat) (x : Nat × va_E), (wl G (ρ, t, μ))[k]? = some x → H1[x.1]? = H[x.1]? := fun k x hx => f3 x.1 ((R.1 k x hx).lt)
  have hR1 : Rep G (ρ, t + 1, μ) H1 := by
    refine ⟨?_, fun _ => by show H1.size = gh G + (t + 1); rw [f2, hsz]; rfl, R.2.2⟩
    rw [wl_push]
    refine (R.1.kept hkeep).app (fun k x hx => ?_)
    have hk0 : k < 1 := (List.getElem?_eq_some_iff.mp hx).1
    rw [show k = 0 by omega] at hx
    cases hx
    rw [ce_obj hc.2.1 hc.1]
    rw [show gh G + t = H.size from hsz.symm]
    refine ⟨_, cls_ok ci hc.1, hob.to (fun j hj => ?_)⟩
    unfold vp_V
    rw [List.getD_eq_getElem?_getD, fvl_at hj, hty j hj]
    unfold fvl
    dsimp only
    rw [hz.1, hz.2]
    rfl
  refine W.cs e1 e2 ?_
  have hadr : Value.ref H.size = tv G (vR t) := by
    show _ = Value.ref (adr G t)
    rw [adr_nat, hsz]
  rw [hadr]
  exact kk G p l e s m args below meth c H1 locs ls Z C hR1 Lk (vok_c (v := vR t) trivial hS) ⟨by rw [f2]; exact Nat.le_succ_of_le hV.1, fun q h1 h2 => by rw [f3 q (Nat.lt_of_lt_of_le h1 hV.1)]; exact hV.2.1 q h1 h2, hV.2.2⟩ hfin
theorem r_newarr {n : Int} {q : Nat} {at' : ArrayType} (hd : Dc y pc (.newarray at') 2 pc') (hac : Cond.arrayClass (newarray.typeOf at') ∈ lw_g) (hat : newarray.typeOf at' = ety (kt q) ∧ ((at' = .int ∧ kt q = 0) ∨ (at' = .char ∧ kt q = 1))) (hq : 8 ≤ q ∧ kd t = q ∧ t < 226 ∧ t0 ≤ t) (hn : ((kl q : Nat) : Int) = n) (hb : kl q * 4 ≤ 536870912)
    (hz : ∀ k : Nat, μ t k = 0) (hroom : rmOK y t0 (t + 1)) (kk : SPW y t0 pc' L (vR t :: S) (ρ, t + 1, μ) r Mf) : SPW y t0 pc L (vI n :: S) (ρ, t, μ) r Mf := by
  intro G p l e s m args below meth c H locs ls Z C R Lk hS hV hfin
  obtain ⟨hd, rfl⟩ := hd
  subst hn
  have hsz := R.2.1 hq.2.2.1
  have hK := C.2.2.2.2.2.1
  have hts := C.2.2.2.2.1
  have hnr : rng (kl q : Nat) := vok_h (v := vI _) hS
  have hso : szo t = kl q := by unfold szo; rw [hq.2.1, if_neg (by omega)]
  have hmon := slt_le hq.2.2.2
  have hsl : slt (t + 1) = slt t + kl q := by rw [slt, hso]
  have e1 : t - t0 + 1 = t + 1 - t0 := by omega
  have e2 : slt t - slt t0 + kl q = slt (t + 1) - slt t0 := by rw [hsl]; omega
  have hcb : kl q * componentBytes (newarray.typeOf at') ≤ 536870912 := by
    rcases hat.2 with ⟨rfl, -⟩ | ⟨rfl, -⟩
    · exact hb
    · exact Nat.le_trans (Nat.mul_le_mul_left _ (by decide)) hb
  have hdef : defaultValue (newarray.typeOf at') = .int 0 := by
    rcases hat.2 with ⟨rfl, -⟩ | ⟨rfl, -⟩ <;> rfl
  refine va_newaK C.1 C.2.1 (hts _ hac) rfl hd rfl (N := kl q) (by rw [oi_0, oi_lt hnr rng_0]; omega) (by rw [oi_cl hnr]; rfl) hcb (by show t - t0 + 1 ≤ _; rw [e1]; exact hroom.1) (by show slt t - slt t0 + kl q ≤ _; rw [e2]; exact hroom.2) hsz fun H1 cA f1 f2 f3 f4 f5 => ?_
  have hkt : kt q < 2 := by rcases hat.2 with ⟨-, h⟩ | ⟨-, h⟩ <;> omega
  have hcA : cA = gA G (kt q) := by
    have hra := (hK.2 (kt q) _ (tys_at q (by omega))).2
    rw [hat.1] at f5
    rcases hat.2 with ⟨-, h⟩ | ⟨-, h⟩
    · rw [h] at hra f5 ⊢
      exact Option.some.inj (f5.symm.trans hra)
    · rw [h] at hra f5 ⊢
      exact Option.some.inj (f5.symm.trans hra)
  have hkeep : ∀ (k : Nat) (x : Nat × va_E), (wl G (ρ, t, μ))[k]? = some x → H1[x.1]? = H[x.1]? := fun k x hx => f3 x.1 (by rw [← hsz]; exact (R.1 k x hx).lt)
  have hR1 : Rep G (ρ, t + 1, μ) H1 := by
    refine ⟨?_, fun _ => by show H1.size = gh G + (t + 1); rw [f2]; rfl, R.2.2⟩
    rw [wl_push]
    refine (R.1.kept hkeep).app (fun k x hx => ?_)
    have hk0 : k < 1 := (List.getElem?_eq_some_iff.mp hx).1
    rw [show k = 0 by omega] at hx
    cases hx
    rw [ce_int hq.2.1 (by omega) hkt]
    show H1[gh G + t]? = some (vp_cell _ _)
    rw [f1, hcA, hdef, vp_cell_i]
    congr 2
    funext j
    dsimp only
    rw [hz j]
    rfl
  refine W.cs e1 e2 ?_
  have hadr : Value.ref (gh G + t) = tv G (vR t) := by
    show _ = Value.ref (adr G t)
    rw [adr_nat]
  rw [hadr]
  exact kk G p l e s m args below meth c H1 locs ls Z C hR1 Lk (vok_c (v := vR t) trivial (vok_t hS)) ⟨by rw [f2]; rw [← hsz]; exact Nat.le_succ_of_le hV.1, fun q h1 h2 => by rw [f3 q (by rw [← hsz]; exact Nat.lt_of_lt_of_le h1 hV.1)]; exact hV.2.1 q h1 h2, hV.2.2⟩ hfin
theorem Xw.at {s : State} (h : Xw s) {ci : Nat} (hc : ci = 0 ∨ ci = 4 ∨ ci = 3 ∨ ci = 1) : va_AO (cnm ci) s := by
  rcases hc with rfl | rfl | rfl | rfl
  · exact h.1
  · exact h.2.1
  · exact h.2.2.1
  · exact h.2.2.2.1
theorem r_newref {n : Int} {q idx ci : Nat} (hd : Dc y pc (.anewarray idx) 3 pc') (hcl : Cond.classLink (mnm y).cls idx (cnm ci) ∈ lw_g) (hci : ci = 0 ∨ ci = 4 ∨ ci = 3 ∨ ci = 1) (hat : ety (kt q) = .object (cnm ci) ∧ 2 ≤ kt q ∧ kt q < 6) (hq : 8 ≤ q ∧ kd t = q ∧ t < 226 ∧ t0 ≤ t) (hn : ((kl q : Nat) : Int) = n) (hb : kl q * 4 ≤ 536870912)
    (hz : ∀ k : Nat, ρ t k = none) (hroom : rmOK y t0 (t + 1)) (kk : SPW y t0 pc' L (vR t :: S) (ρ, t + 1, μ) r Mf) : SPW y t0 pc L (vI n :: S) (ρ, t, μ) r Mf := by
  intro G p l e s m args below meth c H locs ls Z C R Lk hS hV hfin
  obtain ⟨hd, rfl⟩ := hd
  subst hn
  have hsz := R.2.1 hq.2.2.1
  have hK := C.2.2.2.2.2.1
  have hts := C.2.2.2.2.1
  have hnr : rng (kl q : Nat) := vok_h (v := vI _) hS
  have hcl1 : (Int32.ofInt ((kl q : Nat) : Int)).toNatClampNeg = kl q := by rw [oi_cl hnr]; rfl
  have hso : szo t = kl q := by unfold szo; rw [hq.2.1, if_neg (by omega)]
  have hmon := slt_le hq.2.2.2
  have hsl : slt (t + 1) = slt t + kl q := by rw [slt, hso]
  have e1 : t - t0 + 1 = t + 1 - t0 := by omega
  have e2 : slt t - slt t0 + kl q = slt (t + 1) - slt t0 := by rw [hsl]; omega
  refine W.anew (C := cnm ci) C.1 C.2.1 C.2.2.2.1 (hts _ hcl) (va_AO.use (C.2.2.2.2.2.2.1.at hci)) rfl hd rfl (by rw [oi_0, oi_lt hnr rng_0]; omega) (by rw [hcl1]; exact hb) (by show t - t0 + 1 ≤ _; rw [e1]; exact hroom.1) (by show slt t - slt t0 + _ ≤ _; rw [hcl1, e2]; exact hroom.2) fun cA kA comp g1 g2 g3 g4 => ?_
  rw [hcl1]
  have hcA : cA = gA G (kt q) := by
    have hra := (hK.2 (kt q) _ (tys_at q hat.2.2)).2
    rw [hat.1] at hra
    obtain ⟨_, _, -, -, -, h4⟩ := hra
    exact Option.some.inj (g1.symm.trans h4)
  generalize hH1 : H.push ({ cls := cA, slots := Array.replicate (kl q) .null, vm := .none } : Cell) = H1
  have f2 : H1.size = H.size + 1 := by rw [← hH1, Array.size_push]
  have f1 : H1[H.size]? = some (arrV cA (kl q) (fun _ => .null)) := by rw [← hH1, Array.getElem?_push_size, ← arrV_new]
  have f3 : ∀ q : Nat, q < H.size → H1[q]? = H[q]? := fun q hq => by rw [← hH1, Array.getElem?_push, if_neg (Nat.ne_of_lt hq)]
  have hkeep : ∀ (k : Nat) (x : Nat × va_E), (wl G (ρ, t, μ))[k]? = some x → H1[x.1]? = H[x.1]? := fun k x hx => f3 x.1 ((R.1 k x hx).lt)
  have hR1 : Rep G (ρ, t + 1, μ) H1 := by
    refine ⟨?_, fun _ => by show H1.size = gh G + (t + 1); rw [f2, hsz]; rfl, R.2.2⟩
    rw [wl_push]
    refine (R.1.kept hkeep).app (fun k x hx => ?_)
    have hk0 : k < 1 := (List.getElem?_eq_some_iff.mp hx).1
    rw [show k = 0 by omega] at hx
    cases hx
    rw [ce_ref hq.2.1 (by omega) (by omega)]
    show H1[gh G + t]? = some (vp_cell _ _)
    rw [show gh G + t = H.size from hsz.symm]
    rw [f1, hcA, vp_cell_q]
    congr 2
    funext j
    dsimp only
    rw [hz j]
    rfl
  refine W.cs e1 e2 ?_
  have hadr : Value.ref H.size = tv G (vR t) := by
    show _ = Value.ref (adr G t)
    rw [adr_nat, hsz]
  rw [hadr]
  exact kk G p l e s m args below meth c H1 locs ls Z C hR1 Lk (vok_c (v := vR t) trivial (vok_t hS)) ⟨by rw [f2]; exact Nat.le_succ_of_le hV.1, fun q h1 h2 => by rw [f3 q (Nat.lt_of_lt_of_le h1 hV.1)]; exact hV.2.1 q h1 h2, hV.2.2⟩ hfin
theorem tv_cats (G : Gg) (S : List Vv) : ((S.map (tv G)).map fun v => v.category).sum = S.length := by
  induction S with
  | nil => rfl
  | cons v S ih =>
    simp only [List.map_cons, List.sum_cons, tv_cat, List.length_cons] at ih ⊢
    omega
theorem r_obj {o : Int} {idx : Nat} (hd : Dc y pc (.invokespecial idx) 3 pc') (hl : Cond.methodLink (mnm y).cls idx Lib.objectInit ∈ lw_g) (hR : 1 ≤ (mrm y).frames ∧ 12 + S.length ≤ (mrm y).locals) (kk : SPW y t0 pc' L S (ρ, t, μ) r Mf) : SPW y t0 pc L (vR o :: S) (ρ, t, μ) r Mf := by
  intro G p l e s m args below meth c H locs ls Z C R Lk hS hV hfin
  obtain ⟨hd, rfl⟩ := hd
  have hts := C.2.2.2.2.1
  exact W.objInit C.1 C.2.1 C.2.2.2.1 (hts _ hl) (hts _ inst_obj) (hts _ code_obj) rfl (Lk.1.trans C.2.2.1.symm) rfl hd hR.1 (by rw [tv_cats]; show 2 * 0 + _ + 12 ≤ _; omega) (kk G p l e s m args below meth c H locs ls Z C R Lk (vok_t hS) hV hfin)
theorem r_min {x z : Int} {idx : Nat} (hd : Dc y pc (.invokestatic idx) 3 pc') (hl : Cond.methodLink (mnm y).cls idx Lib.Math.min.name ∈ lw_g) (hR : 1 ≤ (mrm y).frames ∧ 13 + S.length ≤ (mrm y).locals) (hroom : rmOK y t0 t) (kk : SPW y t0 pc' L (vI (if z < x then z else x) :: S) (ρ, t, μ) r Mf) : SPW y t0 pc L (vI z :: vI x :: S) (ρ, t, μ) r Mf := by
  intro G p l e s m args below meth c H locs ls Z C R Lk hS hV hfin
  obtain ⟨hd, rfl⟩ := hd
  have hts := C.2.2.2.2.1
  have hz : rng z := vok_h hS
  have hx : rng x := vok_h (vok_t hS)
  refine va_mmin C.1 C.2.1 (C.2.2.1.trans Lk.1.symm) C.2.2.2.1 (hts _ hl) (hts _ stat_min) (hts _ ini_Math) (hts _ code_min) hR.1 (by rw [tv_cats]; omega) hroom.1 hroom.2 hd ?_
  have he : (if Int32.ofInt z < Int32.ofInt x then Int32.ofInt z else Int32.ofInt x) = Int32.ofInt (if z < x then z else x) := by
    by_cases h : z < x
    · rw [if_pos h, if_pos ((oi_lt hz hx).mpr h)]
    · rw [if_neg h, if_neg (fun q => h ((oi_lt hz hx).mp q))]
  rw [he]
  exact kk G p l e s m args below meth c H locs ls Z C R Lk (vok_c (v := vI _) (by show rng _; split <;> assumption) (vok_t (vok_t hS))) hV hfin
end RN
theorem Xw.warm {s U : State} (h : Xw s) (hW : s.WarmedH U.vm) : Xw U := ⟨h.1.moved hW.alike, h.2.1.moved hW.alike, h.2.2.1.moved hW.alike, h.2.2.2.1.moved hW.alike, va_Nw.warmM hW h.2.2.2.2⟩
theorem Xw.same {u U : State} (h : Xw u) (e : u.vm = U.vm) : Xw U := by
  have hal : u.vm.Alike U.vm := by rw [e]; exact Vm.Alike.refl _
  exact ⟨h.1.moved hal, h.2.1.moved hal, h.2.2.1.moved hal, h.2.2.2.1.moved hal, va_Nw.same rfl e h.2.2.2.2⟩
theorem MetP_blind (as : List Value) (G : Gg) (vs : List Vv) (M : Mm) : FrameBlind (va_Pc as (MetP G vs M)) := fun a U g mk q => ⟨q.1, q.2.1, va_K.moved (u := U) (U := U.calling g mk a) (Vm.Alike.refl U.vm) q.2.2.1, q.2.2.2.1.same (U := U.calling g mk a) rfl, q.2.2.2.2⟩
theorem good_M {y : MI} (h : Cond.code (mnm y) (mbc y) (mml y) (mrt y) ∈ lw_g) : GoodIn lw_g (wsM y) := by
  intro w hw
  rcases List.mem_cons.mp hw with rfl | hw
  · exact ⟨h, lw_good _ h⟩
  · exact ⟨hw, lw_good _ hw⟩
section RC
variable {y y' : MI} {t0 pc pc' idx n ci : Nat} {L : List (Option Vv)} {S As : List Vv} {M M1 Mf : Mm} {r r1 : Option Vv} {o : Int}
/-- what a caller owes of room: the callee's frames and words, and its cells within its own -/
def clOK (y y' : MI) (t0 : Nat) (M M1 : Mm) : Prop := (mrm y').frames + 1 ≤ (mrm y).frames ∧ 8 + (mml y' + 11) + (mrm y').locals ≤ (mrm y).locals ∧ (mrm y').cells = M1.2.1 - M.2.1 ∧ (mrm y').slots = slt M1.2.1 - slt M.2.1 ∧ t0 ≤ M.2.1 ∧ M.2.1 ≤ M1.2.1 ∧ rmOK y t0 M1.2.1
theorem cl_go {G : Gg} {p : Program} {l : Launch} {e : Env} {s : State} {m : MethodId} {args a : Array Value} {below : List Frame} {meth : Method} {c : Code} {H : Heap} {locs : List Loc} {ls : Array Slot} {Z : State → Prop} {st0 : List Value} (hcl : clOK y y' t0 M M1)
    (hr : va_Run p l e (mrm y) s m args below meth c H locs (M.2.1 - t0) (slt M.2.1 - slt t0) (M1.2.1 - M.2.1) (slt M1.2.1 - slt M.2.1) (F0 m pc ls st0) (S.map (tv G)) (MetQ G r1 M1 a) (Ah G))
    (C : Cx G y p s m args meth c) (Lk : LocOK G ls (mml y) L) (hS : ∀ v ∈ S, vok v) (hV : va_S (Ah G) s.heap H locs)
    (hfin : ∀ (H' : Heap) (locs' : List Loc) (ls' : Array Slot) (pc' : Nat), Rep G Mf H' → va_S (Ah G) s.heap H' locs' → (∀ v, r = some v → vok v) → decode (mbc y) pc' = .ok (retI (mrt y), 1) →
      W p l e (mrm y) s m args below meth c H' locs' (Mf.2.1 - t0) (slt Mf.2.1 - slt t0) Z (F0 m pc' ls' (r.toList.map (tv G))))
    (kk : SPW y t0 (pc + 3) L (r1.toList ++ S) M1 r Mf) : W p l e (mrm y) s m args below meth c H locs (M.2.1 - t0) (slt M.2.1 - slt t0) Z (F0 m pc ls st0) := by
  intro T hT X
  obtain ⟨v, st₀, t, T', L2, h0, X', hL, e1, e2, hq, st⟩ := hr T hT X
  obtain ⟨hv, hR1, hvk, hF⟩ := hq
  have hv' : v = r1.map (tv G) := by cases hv; rfl
  subst hv'
  obtain ⟨-, -, -, -, g1, g2, -⟩ := hcl
  have m1 := slt_le g1
  have m2 := slt_le g2
  rw [show M.2.1 - t0 + (M1.2.1 - M.2.1) = M1.2.1 - t0 by omega, show slt M.2.1 - slt t0 + (slt M1.2.1 - slt M.2.1) = slt M1.2.1 - slt t0 by omega] at X'
  unfold va_F at hF
  rw [h0] at hF
  have hV' : va_S (Ah G) s.heap T'.heap (locs ++ L2) := by
    refine ⟨Nat.le_trans hV.1 (by rw [e1]; exact hF.1), fun q h1 h2 => ?_, fun q hq => ?_⟩
    · rw [e1, hF.2 q (Nat.lt_of_lt_of_le h1 hV.1) h2]
      exact hV.2.1 q h1 h2
    · rcases List.mem_append.mp hq with h | h
      · exact hV.2.2 q h
      · exact hL q h
  have hS' : ∀ v ∈ r1.toList ++ S, vok v := by
    intro v hv
    rcases List.mem_append.mp hv with h | h
    · exact hvk v (by simpa using h)
    · exact hS v h
  obtain ⟨t2, a1, b1⟩ := kk G p l e s m args below meth c T'.heap (locs ++ L2) ls Z C (by rw [e1]; exact hR1) Lk hS' hV' hfin T' rfl X'
  refine ⟨t2, st t2 ?_, b1⟩
  have hst : (r1.toList ++ S).map (tv G) = (r1.map (tv G)).toList ++ S.map (tv G) := by cases r1 <;> simp
  rw [hst] at a1
  exact a1
theorem r_callV_ (hd : Dc y pc (.invokevirtual idx) 3 pc') (hl : Cond.methodLink (mnm y).cls idx (mnm y') ∈ lw_g) (ok : mOK y' n) (vi : mVirt y') (hM : MetC y' (vR o :: As) M r1 M1) (hn : As.length = n) (hv : vk M.2.1 o ci) (hc : ci < 8 ∧ cnm ci = (mnm y').cls) (hcl : clOK y y' t0 M M1) (hlen : S.length ≤ 8) (kk : SPW y t0 pc' L (r1.toList ++ S) M1 r Mf) : SPW y t0 pc L (As.reverse ++ vR o :: S) M r Mf := by
  intro G p l e s m args below meth c H locs ls Z C R Lk hS hV hfin
  obtain ⟨hd, rfl⟩ := hd
  have hts := C.2.2.2.2.1
  have hS0 : ∀ v ∈ S, vok v := fun v h => hS v (List.mem_append_right _ (List.mem_cons_of_mem _ h))
  have hAs : ∀ v ∈ vR o :: As, vok v := fun v h => (List.mem_cons.mp h).elim (fun q => by rw [q]; trivial) (fun q => hS v (List.mem_append_left _ (List.mem_reverse.mpr q)))
  have he := wl_get (G := G) (M := M) hv.1 hv.2.1
  rw [ce_obj hv.2.2 hc.1] at he
  obtain ⟨o1, o2, o3, o4, o5, o6⟩ := ok
  have hG : GoodIn lw_g (wsV (mnm y).cls idx (mnm y').cls (mnm y') (wsM y')) := by
    intro w hw
    rcases List.mem_append.mp hw with hw | hw
    · have hw' : w ∈ lw_g := by
        rcases List.mem_cons.mp hw with rfl | hw
        · exact hl
        rcases List.mem_cons.mp hw with rfl | hw
        · exact vi.1
        rcases List.mem_cons.mp hw with rfl | hw
        · exact vi.2
        rcases List.mem_cons.mp hw with rfl | hw
        · exact o5
        · cases hw
      exact ⟨hw', lw_good _ hw'⟩
    · exact good_M o1 w hw
  have cw := cwV (args := args) (s := s) (R := mrm y) (rm := mrm y') n hts hG rfl hcl.2.2.1 hcl.2.2.2.1 ⟨rfl, o3, o4, o6⟩ ⟨hcl.1, hcl.2.1⟩
  have hrec := va_recv C.2.2.2.2.2.1 R.1 (cls_ok ci hc.1) he
  rw [show (cnm ci, Tcl ci, nfd ci).1 = (mnm y').cls from hc.2] at hrec
  have run := va_runV (b := adr G o) (As := As.map (tv G)) (rest := S.map (tv G)) (g := F0 m pc ls ((As.reverse ++ vR o :: S).map (tv G))) (cells := M.2.1 - t0) (slots := slt M.2.1 - slt t0) (locs := locs) (below := below) (meth := meth) (e := e) ⟨C.1, C.2.1, C.2.2.1, C.2.2.2.1, hts⟩ (hM l G) cw
    ⟨MetP_blind _ G _ M, hrec, fun U hU hW => ⟨rfl, by rw [hU]; exact R, va_K.moved hW.alike C.2.2.2.2.2.1, C.2.2.2.2.2.2.1.warm hW, hAs⟩⟩ rfl (by rw [List.length_map]; exact hn) Lk.1 (by simp [tv, va_rf]) (lv_room (by rw [tv_cats]; exact hlen)) hd ⟨by have := hcl.2.2.2.2.2.2.1; have := hcl.2.2.2.2.1; have := hcl.2.2.2.2.2.1; omega, by have := hcl.2.2.2.2.2.2.2; have := slt_le hcl.2.2.2.2.1; have := slt_le hcl.2.2.2.2.2.1; omega⟩
  exact cl_go hcl run C Lk hS0 hV hfin kk
theorem r_callS_ (hd : Dc y pc (.invokestatic idx) 3 pc') (hl : Cond.methodLink (mnm y).cls idx (mnm y') ∈ lw_g) (ok : mOK y' n) (sta : Cond.static (mnm y') ∈ lw_g) (hM : MetC y' As M r1 M1) (hn : As.length = n) (hcl : clOK y y' t0 M M1) (hlen : S.length ≤ 8) (kk : SPW y t0 pc' L (r1.toList ++ S) M1 r Mf) : SPW y t0 pc L (As.reverse ++ S) M r Mf := by
  intro G p l e s m args below meth c H locs ls Z C R Lk hS hV hfin
  obtain ⟨hd, rfl⟩ := hd
  have hts := C.2.2.2.2.1
  have hS0 : ∀ v ∈ S, vok v := fun v h => hS v (List.mem_append_right _ h)
  have hAs : ∀ v ∈ As, vok v := fun v q => hS v (List.mem_append_left _ (List.mem_reverse.mpr q))
  obtain ⟨o1, o2, o3, o4, o5, o6⟩ := ok
  have cw := callB_of (args := args) (s := s) (R := mrm y) (rm := mrm y') (own := (mnm y).cls) (index := idx) n hts (good_M o1) rfl hcl.2.2.1 hcl.2.2.2.1 (hts _ o5) (hts _ hl) ⟨o3, o4, o6⟩ ⟨hcl.1, hcl.2.1⟩
  have run := va_runS (As := As.map (tv G)) (rest := S.map (tv G)) (g := F0 m pc ls ((As.reverse ++ S).map (tv G))) (cells := M.2.1 - t0) (slots := slt M.2.1 - slt t0) (locs := locs) (below := below) (meth := meth) (e := e) ⟨C.1, C.2.1, C.2.2.1, C.2.2.2.1, hts⟩ (hM l G) ⟨cw, hts _ sta⟩
    ⟨MetP_blind _ G _ M, fun U hU hW => ⟨rfl, by rw [hU]; exact R, va_K.moved hW.alike C.2.2.2.2.2.1, C.2.2.2.2.2.2.1.warm hW, hAs⟩⟩ rfl (by rw [List.length_map]; exact hn) Lk.1 (by simp) (lv_room (by rw [tv_cats]; exact hlen)) hd ⟨by have := hcl.2.2.2.2.2.2.1; have := hcl.2.2.2.2.1; have := hcl.2.2.2.2.2.1; omega, by have := hcl.2.2.2.2.2.2.2; have := slt_le hcl.2.2.2.2.1; have := slt_le hcl.2.2.2.2.2.1; omega⟩
  exact cl_go hcl run C Lk hS0 hV hfin kk
theorem r_callI_ (hd : Dc y pc (.invokespecial idx) 3 pc') (hl : Cond.methodLink (mnm y).cls idx (mnm y') ∈ lw_g) (ok : mOK y' n) (inst : Cond.instanceMethod (mnm y') ∈ lw_g) (hy : (mnm y').name = "<init>" ∧ mrt y' = none) (hM : MetC y' (vR o :: As) M r1 M1) (hn : As.length = n) (hcl : clOK y y' t0 M M1) (hlen : S.length ≤ 8) (kk : SPW y t0 pc' L (r1.toList ++ S) M1 r Mf) : SPW y t0 pc L (As.reverse ++ vR o :: S) M r Mf := by
  intro G p l e s m args below meth c H locs ls Z C R Lk hS hV hfin
  obtain ⟨hd, rfl⟩ := hd
  have hts := C.2.2.2.2.1
  have hS0 : ∀ v ∈ S, vok v := fun v h => hS v (List.mem_append_right _ (List.mem_cons_of_mem _ h))
  have hAs : ∀ v ∈ vR o :: As, vok v := fun v h => (List.mem_cons.mp h).elim (fun q => by rw [q]; trivial) (fun q => hS v (List.mem_append_left _ (List.mem_reverse.mpr q)))
  obtain ⟨o1, o2, o3, o4, o5, o6⟩ := ok
  have cw := callB_of (args := args) (s := s) (R := mrm y) (rm := mrm y') (own := (mnm y).cls) (index := idx) n hts (good_M o1) rfl hcl.2.2.1 hcl.2.2.2.1 (hts _ o5) (hts _ hl) ⟨o3, o4, o6⟩ ⟨hcl.1, hcl.2.1⟩
  rw [hy.2] at cw
  have run := va_runI (b := adr G o) (As := As.map (tv G)) (rest := S.map (tv G)) (g := F0 m pc ls ((As.reverse ++ vR o :: S).map (tv G))) (cells := M.2.1 - t0) (slots := slt M.2.1 - slt t0) (locs := locs) (below := below) (meth := meth) (e := e) ⟨C.1, C.2.1, C.2.2.1, C.2.2.2.1, hts⟩ (hM l G) ⟨cw, hy.1, hts _ inst⟩
    ⟨MetP_blind _ G _ M, fun U hU hW => ⟨rfl, by rw [hU]; exact R, va_K.moved hW.alike C.2.2.2.2.2.1, C.2.2.2.2.2.2.1.warm hW, hAs⟩⟩ rfl (by rw [List.length_map]; exact hn) Lk.1 (by simp [tv, va_rf]) (lv_room (by rw [tv_cats]; exact hlen)) hd ⟨by have := hcl.2.2.2.2.2.2.1; have := hcl.2.2.2.2.1; have := hcl.2.2.2.2.2.1; omega, by have := hcl.2.2.2.2.2.2.2; have := slt_le hcl.2.2.2.2.1; have := slt_le hcl.2.2.2.2.2.1; omega⟩
  exact cl_go hcl run C Lk hS0 hV hfin kk
end RC
theorem lv_args_at : ∀ (vs : List Value) (k : Nat), (∀ v ∈ vs, v.category = 1) → ∀ (i : Nat) (v : Value), vs[i]? = some v → (k + i, v) ∈ lv_args k vs
  | [], k, _, i, v, h => by simp at h
  | w :: vs, k, hc, i, v, h => by
    have hw : w.category = 1 := hc w List.mem_cons_self
    unfold lv_args
    rw [if_neg (by omega)]
    cases i with
    | zero =>
      rw [List.getElem?_cons_zero] at h
      cases h
      exact List.mem_cons_self
    | succ i =>
      rw [List.getElem?_cons_succ] at h
      have := lv_args_at vs (k + 1) (fun v hv => hc v (List.mem_cons_of_mem _ hv)) i v h
      rw [show k + (i + 1) = k + 1 + i by omega]
      exact List.mem_cons_of_mem _ this
theorem lg_sl_len : ∀ (vs : List Value), (∀ v ∈ vs, v.category = 1) → (lg_sl vs).length = vs.length
  | [], _ => rfl
  | w :: vs, hc => by
    have hw : w.category = 1 := hc w List.mem_cons_self
    have ih := lg_sl_len vs (fun v hv => hc v (List.mem_cons_of_mem _ hv))
    unfold lg_sl at ih ⊢
    rw [List.flatMap_cons, if_neg (by omega), List.length_append, ih]
    simp
    omega
theorem entry_loc {G : Gg} {as : List Vv} {n : Nat} (hn : as.length ≤ n) (hv : ∀ v ∈ as, vok v) : LocOK G ((lg_sl (as.map (tv G)) ++ List.replicate (n - (lg_sl (as.map (tv G))).length) Slot.unset).toArray) n (as.map some ++ List.replicate (n - as.length) none) := by
  have hc : ∀ v ∈ as.map (tv G), v.category = 1 := by
    intro v hv
    obtain ⟨w, -, rfl⟩ := List.mem_map.mp hv
    exact tv_cat G w
  have hl := lv_entry (as.map (tv G)) (n := n) (by rw [lg_sl_len _ hc, List.length_map]; exact hn)
  refine ⟨hl.1, hl.2.1, by simp; omega, fun i v h => ?_⟩
  rw [List.getElem?_append] at h
  split at h
  · rename_i hlt
    rw [List.getElem?_map] at h
    cases ha : as[i]? with
    | none => rw [ha] at h; cases h
    | some w =>
      rw [ha] at h
      cases h
      refine ⟨?_, hv v (List.mem_of_getElem? ha)⟩
      have h1 := lv_args_at (as.map (tv G)) 0 hc i (tv G v) (by rw [List.getElem?_map, ha]; rfl)
      rw [Nat.zero_add] at h1
      exact hl.2.2 _ h1
  · rename_i hlt
    have h2 := List.mem_of_getElem? h
    rw [List.mem_replicate] at h2
    cases h2.2
theorem met_of {y : MI} {as : List Vv} {M Mf : Mm} {r : Option Vv} (hw : SPW y M.2.1 0 (as.map some ++ List.replicate (mml y - as.length) none) [] M r Mf) (hn : as.length ≤ mml y) (hpl : plainName (mnm y).cls = true) (hr : rOK (mrt y) r) (hlaw : (mnm y).name ≠ "law") (h0 : 0 < M.2.1) : MetC y as M r Mf := by
  intro l G
  refine Met.ofW (cc := mbc y) (maxL := mml y) (ret := mrt y) hpl rfl ?_
  intro p e s m args below meth c s₁ B hml hpv
  obtain ⟨rfl, hR, hK, hXw, hv⟩ := hpv
  have hts := atoms_spec (ws := wsM y) B.pre
  have hown : s.vm.findClass (mnm y).cls = some m.cls := findClass_of_methodNamed B.named
  have hlocks := B.notSynchronized
  have hret := B.returns
  have hgh : gh G ≤ s.heap.size := by
    have h1 := wl_get (G := G) (M := M) (o := 0) (Int.le_refl 0) (by omega)
    have h2 := (hR.1 _ _ h1).lt
    rw [adr_pos (Int.le_refl 0)] at h2
    dsimp only at h2
    omega
  have C : Cx G y p s m (as.map (tv G)).toArray meth c := ⟨B.exec, B.bytes, hml, hown, fun w h => hts w (List.mem_cons_of_mem _ h), hK, hXw, fun h => (name_of_methodNamed B.named B.method).1.trans h, hgh, fun h => absurd h hlaw⟩
  rw [lg_entry_eq]
  have hk := hw G p l e s m (as.map (tv G)).toArray below meth c s.heap [] _ (MQ below (MetQ G r Mf) (as.map (tv G)).toArray s (Mf.2.1 - M.2.1) (slt Mf.2.1 - slt M.2.1) (Ah G)) C hR (entry_loc hn hv) (fun _ h => by cases h) va_S.rf ?_
  · rw [Nat.sub_self, Nat.sub_self] at hk
    exact hk
  · intro H' locs' ls' pc' hR' hV' hvk hd
    have hq : ∀ t : State, t.heap = H' → s.WarmedH t.vm → MetQ G r Mf (as.map (tv G)).toArray s (.returned (r.map (tv G))) t := fun t ht hW => ⟨rfl, by rw [ht]; exact hR', hvk, hV'.F ht⟩
    have hx := B.exec
    have hb := B.bytes
    generalize hrt : mrt y = rt at hr hd hret
    rcases rt with _ | rt
    · cases r with
      | some v => exact hr.elim
      | none => exact W.vret hx hb hret hq hV'.2.2 hd
    · rcases r with _ | v
      · cases rt <;> exact hr.elim
      · cases rt with
        | int =>
          rcases v with x | q
          · exact W.iret hx hb hret hq hV'.2.2 hd
          · exact hr.elim
        | boolean =>
          rcases v with x | q
          · refine W.zret hx hb hret ?_ hq hV'.2.2 hd
            rcases hr with rfl | rfl <;> rfl
          · exact hr.elim
        | char =>
          rcases v with x | q
          · refine W.zret hx hb hret ?_ hq hV'.2.2 hd
            have := (pk_charN (q := x.toNat) (by have := hr.1; have := hr.2; omega)).1
            rw [oi_nI, Int.toNat_of_nonneg hr.1] at this
            exact this
          · exact hr.elim
        | object n =>
          rcases v with x | q
          · exact hr.elim
          · exact W.aret hx hb hret (Or.inl ⟨n, rfl⟩) (by cases q with | none => exact Or.inl rfl | some o => exact Or.inr ⟨_, rfl⟩) hq hV'.2.2 hd
        | _ => exact hr.elim
def cpA (μ : Int → Int → Int) (src dst n : Int) : Int → Int → Int := fun o k => if o = dst ∧ 0 ≤ k ∧ k < n then μ src k else μ o k
section RX
variable {y : MI} {t0 pc pc' tgt : Nat} {L L' : List (Option Vv)} {S : List Vv} {ρ : Int → Int → Option Int} {t : Nat} {μ : Int → Int → Int} {Mf : Mm} {r : Option Vv}
theorem wl_cpy {G : Gg} {src dst : Int} {n : Nat} {q : Nat} (hq : ¬ q < 8 ∧ kt q < 2) (hv : vk t dst q) : (wl G (ρ, t, μ)).set dst.toNat (adr G dst, .inl (gA G (kt q), kl q, .inl (va_cpy (fun j => Int32.ofInt (μ src j)) (fun j => Int32.ofInt (μ dst j)) 0 0 n))) = wl G (ρ, t, cpA μ src dst n) := by
  obtain ⟨h1, h2, h3⟩ := hv
  refine wl_set (M := (ρ, t, μ)) (M' := (ρ, t, cpA μ src dst n)) h1 rfl (fun z hz => ce_congr (fun _ => rfl) (fun j => if_neg (fun h => hz h.1))) ?_
  rw [ce_int h3 hq.1 hq.2]
  congr 4
  funext j
  show Int32.ofInt (cpA μ src dst n dst j) = va_cpy (fun j => Int32.ofInt (μ src j)) (fun j => Int32.ofInt (μ dst j)) 0 0 n j
  unfold cpA va_cpy
  by_cases hj : j < n
  · rw [if_pos ⟨rfl, by omega, by omega⟩, if_pos ⟨by omega, by omega⟩]
    simp
  · rw [if_neg (by omega), if_neg (by omega)]
theorem r_copy {src dst n : Int} {q q1 idx : Nat} (hd : Dc y pc (.invokestatic idx) 3 pc') (hl : Cond.methodLink (mnm y).cls idx arraycopyName ∈ lw_g) (hq : 8 ≤ q ∧ kt q = 0 ∧ 8 ≤ q1 ∧ kt q1 = 0) (hv : vk 226 src q1) (hw : vk 226 dst q) (hn : 0 ≤ n ∧ n ≤ (kl q : Nat) ∧ n ≤ (kl q1 : Nat)) (hR : 1 ≤ (mrm y).frames ∧ S.length + (nativeFrameWords "java/lang/System" "arraycopy" 5 + 11) ≤ (mrm y).locals) (kk : SPW y t0 pc' L S (ρ, 226, cpA μ src dst n) r Mf) : SPW y t0 pc L (vI n :: vI 0 :: vR dst :: vI 0 :: vR src :: S) (ρ, 226, μ) r Mf := by
  intro G p l e s m args below meth c H locs ls Z C R Lk hS hV hfin
  obtain ⟨hd, rfl⟩ := hd
  have hts := C.2.2.2.2.1
  have hnr : rng n := vok_h hS
  have he1 := wl_get (G := G) (M := (ρ, 226, μ)) hv.1 hv.2.1
  rw [ce_int hv.2.2 (by omega) (by omega)] at he1
  have he2 := wl_get (G := G) (M := (ρ, 226, μ)) hw.1 hw.2.1
  rw [ce_int hw.2.2 (by omega) (by omega)] at he2
  have hn1 : (Int32.ofInt n).toNatClampNeg = n.toNat := oi_cl hnr
  have h01 : (Int32.ofInt 0).toNatClampNeg = 0 := rfl
  refine va_copyi C.1 C.2.1 (C.2.2.1.trans Lk.1.symm) C.2.2.2.1 (hts _ hl) (hts _ nat_copy) (hts _ stat_copy) (hts _ ini_System) C.2.2.2.2.2.1 R.1 wl_D hV src.toNat dst.toNat (kt q1) (kt q) he1 he2 (by rw [tys_at q1 (by omega), hq.2.2.2]) (by rw [tys_at q (by omega), hq.2.1]) rfl (by decide) (by decide) (by rw [oi_0, oi_lt hnr rng_0]; omega) (by rw [hn1, h01]; omega) (by rw [hn1, h01]; omega) (fun i _ => rfl) hR.1 (by rw [tv_cats]; exact hR.2) hd (fun H1 locs1 hP' hD' hV' => ?_)
  rw [hn1, h01, wl_cpy ⟨by omega, by omega⟩ hw, Int.toNat_of_nonneg hn.1] at hP'
  refine kk G p l e s m args below meth c H1 locs1 ls Z C ⟨hP', fun z => absurd z (Nat.lt_irrefl 226), fun o k => ?_, ?_⟩ Lk (vok_t (vok_t (vok_t (vok_t (vok_t hS))))) hV' hfin
  · show rng (cpA μ src dst n o k)
    unfold cpA
    split
    · exact R.2.2.1 _ _
    · exact R.2.2.1 _ _
  · have hk : ∀ k, cpA μ src dst n (-1) k = μ (-1) k := fun k => if_neg (fun h => by have := hw.1; omega)
    exact ⟨by show cpA μ src dst n (-1) (-1) = _; rw [hk]; exact R.2.2.2.1, fun j hj => by show Int32.ofInt (cpA μ src dst n (-1) j) = _; rw [hk]; exact R.2.2.2.2 j hj⟩
/-- the memory may be said otherwise, where no object of it differs -/
theorem r_conv {ρ' : Int → Int → Option Int} {μ' : Int → Int → Int} (hc : ∀ o : Int, 0 ≤ o → o < t → ∀ k : Nat, k < szo o → (kd o < 8 → (tyk (kd o) k = 2 → ρ o k = ρ' o k) ∧ (tyk (kd o) k ≠ 2 → μ o k = μ' o k)) ∧ (8 ≤ kd o → (kt (kd o) < 2 → μ o k = μ' o k) ∧ (2 ≤ kt (kd o) → ρ o k = ρ' o k))) (hr : (∀ o k, rng (μ o k)) → ∀ o k, rng (μ' o k)) (hs : ∀ k, μ' (-1) k = μ (-1) k) (kk : SPW y t0 pc L S (ρ', t, μ') r Mf) : SPW y t0 pc L S (ρ, t, μ) r Mf := by
  intro G p l e s m args below meth c H locs ls Z C R Lk hS hV hfin
  refine kk G p l e s m args below meth c H locs ls Z C ⟨?_, R.2.1, hr R.2.2.1, ⟨by show μ' (-1) (-1) = _; rw [hs]; exact R.2.2.2.1, fun j hj => by show Int32.ofInt (μ' (-1) j) = _; rw [hs]; exact R.2.2.2.2 j hj⟩⟩ Lk hS hV hfin
  intro i q hq
  have hlt : i < t := by
    have := (List.getElem?_eq_some_iff.mp hq).1
    unfold wl at this
    simpa using this
  have h1 := wl_get (G := G) (M := (ρ', t, μ')) (o := (i : Int)) (by omega) (by show (i : Int) < (t : Int); omega)
  have h2 := wl_get (G := G) (M := (ρ, t, μ)) (o := (i : Int)) (by omega) (by show (i : Int) < (t : Int); omega)
  rw [Int.toNat_natCast] at h1 h2
  have h3 := R.1 i _ h2
  cases hq.symm.trans h1
  have ho := hc i (by omega) (by omega)
  by_cases hz : kd (i : Int) < 8
  · rw [ce_obj rfl hz] at h3 ⊢
    have e : (List.range (nfd (kd (i : Int)))).map (fvl G (ρ, t, μ) (kd (i : Int)) i) = (List.range (nfd (kd (i : Int)))).map (fvl G (ρ', t, μ') (kd (i : Int)) i) := by
      apply List.map_congr_left
      intro k hk
      have hk' := List.mem_range.mp hk
      obtain ⟨a1, -⟩ := ho k (by unfold szo; rw [if_pos hz]; exact hk')
      obtain ⟨b1, b2⟩ := a1 hz
      by_cases h2 : tyk (kd (i : Int)) k = 2
      · rw [fvl_ref h2, fvl_ref h2]
        dsimp only
        rw [b1 h2]
      · rw [fvl_int h2, fvl_int h2]
        dsimp only
        rw [b2 h2]
    rw [← e]
    exact h3
  · by_cases h2 : kt (kd (i : Int)) < 2
    · rw [ce_int rfl hz h2] at h3 ⊢
      have h3 : H[adr G i]? = some (vp_cell _ (_, .inl (fun j => Int32.ofInt (μ i j)))) := h3
      show H[adr G i]? = some (vp_cell _ (_, .inl (fun j => Int32.ofInt (μ' i j))))
      rw [h3, vp_cell_i, vp_cell_i]
      congr 1
      unfold arrV
      congr 1
      apply congrArg
      funext j
      have := ((ho j.val (by unfold szo; rw [if_neg hz]; exact j.isLt)).2 (by omega)).1 h2
      dsimp only
      rw [this]
    · rw [ce_ref rfl hz h2] at h3 ⊢
      have h3 : H[adr G i]? = some (vp_cell _ (_, .inr (.inr (.inr (.inr (fun j => (ρ i j).map (adr G))))))) := h3
      show H[adr G i]? = some (vp_cell _ (_, .inr (.inr (.inr (.inr (fun j => (ρ' i j).map (adr G)))))))
      rw [h3, vp_cell_q, vp_cell_q]
      congr 1
      unfold arrV
      congr 1
      apply congrArg
      funext j
      have := ((ho j.val (by unfold szo; rw [if_neg hz]; exact j.isLt)).2 (by omega)).2 (by omega)
      dsimp only
      rw [this]
/-- the law's script: object -1 -/
theorem r_slen (hd : Dc y pc .arraylength 1 pc') (hy : (mnm y).name = "law") (kk : SPW y t0 pc' L (vI (μ (-1) (-1)) :: S) (ρ, t, μ) r Mf) : SPW y t0 pc L (vR (-1) :: S) (ρ, t, μ) r Mf := by
  intro G p l e s m args below meth c H locs ls Z C R Lk hS hV hfin
  obtain ⟨hd, rfl⟩ := hd
  obtain ⟨hX, hlt⟩ := C.2.2.2.2.2.2.2.2.2 hy
  refine va_slen C.1 C.2.1 hX (Nat.lt_of_lt_of_le hlt C.2.2.2.2.2.2.2.2.1) (Nat.not_le.mpr hlt) hV hd ?_
  have he : Int32.ofNat (gL G) = Int32.ofInt (μ (-1) (-1)) := by rw [show μ (-1) (-1) = (gL G : Int) from R.2.2.2.1]; rfl
  rw [he]
  exact kk G p l e s m args below meth c H locs ls Z C R Lk (vok_c (v := vI _) (R.2.2.1 (-1) (-1)) (vok_t hS)) hV hfin
theorem r_sld {i : Int} (hd : Dc y pc .iaload 1 pc') (hy : (mnm y).name = "law") (h0 : 0 ≤ i) (hi : i < μ (-1) (-1)) (kk : SPW y t0 pc' L (vI (μ (-1) i) :: S) (ρ, t, μ) r Mf) : SPW y t0 pc L (vI i :: vR (-1) :: S) (ρ, t, μ) r Mf := by
  intro G p l e s m args below meth c H locs ls Z C R Lk hS hV hfin
  obtain ⟨hd, rfl⟩ := hd
  obtain ⟨hX, hlt⟩ := C.2.2.2.2.2.2.2.2.2 hy
  have hi' : i < (gL G : Int) := by rw [← show μ (-1) (-1) = (gL G : Int) from R.2.2.2.1]; exact hi
  obtain ⟨e1, e2⟩ := ix_ok (n := gL G) (vok_h hS) h0 hi'
  refine va_sld C.1 C.2.1 hX (Nat.lt_of_lt_of_le hlt C.2.2.2.2.2.2.2.2.1) (Nat.not_le.mpr hlt) hV e1 hd ?_
  rw [e2]
  have he : gx G i.toNat = Int32.ofInt (μ (-1) i) := by
    rw [← R.2.2.2.2 i.toNat (by omega), Int.toNat_of_nonneg h0]
  rw [he]
  exact kk G p l e s m args below meth c H locs ls Z C R Lk (vok_c (v := vI _) (R.2.2.1 (-1) i) (vok_t (vok_t hS))) hV hfin
end RX
end
section
/-! the finished objects: R0 says who points to whom; arities of calls; truth values -/
def R0 (o k : Int) : Option Int :=
  if kd o = 3 then (if k = 0 then some (o + 1) else if k = 1 then some (o + 18) else some (o + 19))
  else if kd o = 17 ∨ kd o = 18 ∨ kd o = 20 then some (o + 1 + k)
  else if kd o = 19 then some (81 + 26 * k)
  else if kd o = 6 then (if k = 0 then some 1 else if k = 1 then some 27 else if k = 2 then some 53 else if k = 4 then some 79 else if k = 5 then some 185 else some 218)
  else if kd o = 2 then some 80
  else if kd o = 5 then (if k = 0 then some 186 else some 187)
  else (if k = 0 then some 220 else if k = 1 then some 221 else if k = 2 then some 222 else if k = 4 then some 223 else if k = 6 then some 224 else some 225)
abbrev st (μ : Int → Int → Int) : Mm := (R0, 226, μ)
theorem vkd {t : Nat} {o : Int} {ci : Nat} (h : (decide (0 ≤ o) && (decide (o < (t : Int)) && decide (kd o = ci))) = true) : vk t o ci := by
  simp only [Bool.and_eq_true, decide_eq_true_eq] at h
  exact h
/-- the seven States -/
def stB (b : Int) : Prop := b = 1 ∨ b = 27 ∨ b = 53 ∨ b = 81 ∨ b = 107 ∨ b = 133 ∨ b = 159
theorem kd_st {b j : Int} (hb : stB b) (h0 : 0 ≤ j) (h1 : j < 26) : kd (b + j) = kS j := by
  unfold stB at hb
  unfold kd
  by_cases hl : b < 80
  · rw [if_neg (by omega), if_neg (by omega), if_pos (by omega), show (b + j - 1) % 26 = j by omega]
  · rw [if_neg (by omega), if_neg (by omega), if_neg (by omega), if_neg (by omega), if_neg (by omega), if_pos (by omega), show (b + j - 81) % 26 = j by omega]
theorem vk_st {b : Int} (hb : stB b) : vk 226 b 3 := by
  have h := kd_st hb (Int.le_refl 0) (by omega)
  rw [Int.add_zero] at h
  unfold stB at hb
  exact ⟨by omega, by omega, h⟩
theorem vk_j {b j : Int} {q : Nat} (hb : stB b) (h0 : 0 ≤ j) (h1 : j < 26) (hq : kS j = q) : vk 226 (b + j) q := by
  have h := kd_st hb h0 h1
  unfold stB at hb
  exact ⟨by omega, by omega, h.trans hq⟩
theorem kS_blk {j : Int} (h0 : 2 ≤ j) (h1 : j < 18) : kS j = 0 := by
  unfold kS
  rw [if_neg (by omega), if_neg (by omega), if_pos h1]
theorem kS_tsk {j : Int} (h0 : 20 ≤ j) : kS j = 4 := by
  unfold kS
  rw [if_neg (by omega), if_neg (by omega), if_neg (by omega), if_neg (by omega), if_neg (by omega)]
theorem vk_b {b i : Int} (hb : stB b) (h0 : 0 ≤ i) (h1 : i < 16) : vk 226 (b + 2 + i) 0 := by
  have h := vk_j (j := 2 + i) hb (by omega) (by omega) (kS_blk (by omega) (by omega))
  rw [show b + 2 + i = b + (2 + i) by omega]
  exact h
theorem vk_t {b i : Int} (hb : stB b) (h0 : 0 ≤ i) (h1 : i < 6) : vk 226 (b + 20 + i) 4 := by
  have h := vk_j (j := 20 + i) hb (by omega) (by omega) (kS_tsk (by omega))
  rw [show b + 20 + i = b + (20 + i) by omega]
  exact h
theorem stB_1 : stB 1 := Or.inl rfl
theorem vk_blk {i : Int} (h0 : 0 ≤ i) (h1 : i < 16) : vk 226 (3 + i) 0 := vk_b stB_1 h0 h1
theorem vk_tsk {i : Int} (h0 : 0 ≤ i) (h1 : i < 6) : vk 226 (21 + i) 4 := vk_t stB_1 h0 h1
theorem vk_cmd {i : Int} (h0 : 0 ≤ i) (h1 : i < 30) : vk 226 (188 + i) 1 := by
  refine ⟨by omega, by omega, ?_⟩
  unfold kd
  rw [if_neg (by omega), if_neg (by omega), if_neg (by omega), if_neg (by omega), if_neg (by omega), if_neg (by omega), if_neg (by omega), if_neg (by omega), if_neg (by omega), if_pos (by omega)]
theorem stB_h {j : Int} (h0 : 0 ≤ j) (h1 : j < 4) : stB (81 + 26 * j) := by
  unfold stB
  omega
theorem vk_hst {i : Int} (h0 : 0 ≤ i) (h1 : i < 4) : vk 226 (81 + 26 * i) 3 := vk_st (stB_h h0 h1)
theorem R0_s0 {b : Int} (hb : stB b) : R0 b 0 = some (b + 1) := by
  unfold R0
  rw [if_pos (vk_st hb).2.2, if_pos rfl]
theorem R0_s1 {b : Int} (hb : stB b) : R0 b 1 = some (b + 18) := by
  unfold R0
  rw [if_pos (vk_st hb).2.2, if_neg (by omega), if_pos rfl]
theorem R0_s2 {b : Int} (hb : stB b) : R0 b 2 = some (b + 19) := by
  unfold R0
  rw [if_pos (vk_st hb).2.2, if_neg (by omega), if_neg (by omega)]
theorem R0_b {b i : Int} (hb : stB b) : R0 (b + 1) i = some (b + 2 + i) := by
  have h := (vk_j (j := 1) (q := 17) hb (by omega) (by omega) rfl).2.2
  unfold R0
  rw [if_neg (by rw [h]; decide), if_pos (Or.inl h)]
  congr 1
  omega
theorem R0_t {b i : Int} (hb : stB b) : R0 (b + 19) i = some (b + 20 + i) := by
  have h := (vk_j (j := 19) (q := 18) hb (by omega) (by omega) rfl).2.2
  unfold R0
  rw [if_neg (by rw [h]; decide), if_pos (Or.inr (Or.inl h))]
  congr 1
  omega
theorem R0_2 {i : Int} : R0 2 i = some (3 + i) := R0_b stB_1
theorem R0_20 {i : Int} : R0 20 i = some (21 + i) := R0_t stB_1
theorem R0_80 {i : Int} : R0 80 i = some (81 + 26 * i) := rfl
theorem R0_187 {i : Int} : R0 187 i = some (188 + i) := by
  unfold R0
  rw [if_neg (by decide), if_pos (by decide)]
  congr 1
/-- a truth value as the machine has it -/
def b2 (p : Prop) [Decidable p] : Int := if p then 1 else 0
theorem b2_t {p : Prop} [Decidable p] (h : p) : b2 p = 1 := if_pos h
theorem b2_f {p : Prop} [Decidable p] (h : ¬ p) : b2 p = 0 := if_neg h
theorem b2_01 {p : Prop} [Decidable p] : b2 p = 0 ∨ b2 p = 1 := by
  by_cases h : p
  · exact Or.inr (b2_t h)
  · exact Or.inl (b2_f h)
theorem b2_iff {p q : Prop} [Decidable p] [Decidable q] (h : p ↔ q) : b2 p = b2 q := by
  by_cases hp : p
  · rw [b2_t hp, b2_t (h.mp hp)]
  · rw [b2_f hp, b2_f (fun x => hp (h.mpr x))]
section RS
variable {y y' : MI} {t0 pc pc' tgt idx n ci : Nat} {L L' : List (Option Vv)} {S : List Vv} {M M1 Mf : Mm} {r : Option Vv} {o : Int} {w v1 v2 v3 v4 : Vv}
theorem r_if_eq_b {p : Prop} [Decidable p] {off : Int} (hd : Db y pc (.ifCond .eq off) off pc' tgt) (kt : ¬ p → SPW y t0 tgt L S M r Mf) (kf : p → SPW y t0 pc' L S M r Mf) : SPW y t0 pc L (vI (b2 p) :: S) M r Mf :=
  r_if_eq hd (fun h => kt (fun q => by rw [b2_t q] at h; omega)) (fun h => kf (by by_cases q : p; exact q; exact absurd (b2_f q) h))
theorem r_if_ne_b {p : Prop} [Decidable p] {off : Int} (hd : Db y pc (.ifCond .ne off) off pc' tgt) (kt : p → SPW y t0 tgt L S M r Mf) (kf : ¬ p → SPW y t0 pc' L S M r Mf) : SPW y t0 pc L (vI (b2 p) :: S) M r Mf :=
  r_if_ne hd (fun h => kt (by by_cases q : p; exact q; exact absurd (b2_f q) h)) (fun h => kf (fun q => by rw [b2_t q] at h; omega))
theorem r_know (kk : (∀ v ∈ S, vok v) → (∀ (i : Nat) (v : Vv), L[i]? = some (some v) → vok v) → (∀ o k, rng (M.2.2 o k)) → SPW y t0 pc L S M r Mf) : SPW y t0 pc L S M r Mf := by
  intro G p l e s m args below meth c H locs ls Z C R Lk hS hV hfin
  exact kk hS (fun i v h => (Lk.2.2.2 i v h).2) R.2.2.1 G p l e s m args below meth c H locs ls Z C R Lk hS hV hfin
theorem r_retI {a b : Int} (hd : decode (mbc y) pc = .ok (retI (mrt y), 1)) (ha : a = b) (hM : M = Mf) : SPW y t0 pc L [vI a] M (some (vI b)) Mf := r_ret hd (by rw [ha]; rfl) hM
theorem r_retR {a b : Option Int} (hd : decode (mbc y) pc = .ok (retI (mrt y), 1)) (ha : a = b) (hM : M = Mf) : SPW y t0 pc L [.inr a] M (some (.inr b)) Mf := r_ret hd (by rw [ha]; rfl) hM
theorem r_retV (hd : decode (mbc y) pc = .ok (retI (mrt y), 1)) (hM : M = Mf) : SPW y t0 pc L [] M none Mf := r_ret hd rfl hM
theorem r_to {M' : Mm} (h : M = M') (kk : SPW y t0 pc L S M' r Mf) : SPW y t0 pc L S M r Mf := h ▸ kk
/-- a call's room where no cell is made: frames and words by computation -/
theorem clS {μ μ' : Int → Int → Int} (h : (Nat.ble ((mrm y').frames + 1) (mrm y).frames && (Nat.ble (8 + (mml y' + 11) + (mrm y').locals) (mrm y).locals && (Nat.beq (mrm y').cells 0 && Nat.beq (mrm y').slots 0))) = true) (ht : t0 ≤ 226) (hr : rmOK y t0 226) : clOK y y' t0 (st μ) (st μ') := by
  simp only [Bool.and_eq_true] at h
  obtain ⟨h1, h2, h3, h4⟩ := h
  refine ⟨Nat.le_of_ble_eq_true h1, Nat.le_of_ble_eq_true h2, ?_, ?_, ht, Nat.le_refl _, hr⟩
  · rw [Nat.eq_of_beq_eq_true h3]; exact (Nat.sub_self _).symm
  · rw [Nat.eq_of_beq_eq_true h4]; exact (Nat.sub_self _).symm
theorem r_V0W (hd : Dc y pc (.invokevirtual idx) 3 pc') (hl : Cond.methodLink (mnm y).cls idx (mnm y') ∈ lw_g) (ok : mOK y' 0) (vi : mVirt y') (hv : vk M.2.1 o ci) (hc : ci < 8 ∧ cnm ci = (mnm y').cls) (hcl : clOK y y' t0 M M1) (hlen : Nat.ble S.length 8 = true) (hM : MetC y' [vR o] M (some w) M1) (kk : SPW y t0 pc' L (w :: S) M1 r Mf) : SPW y t0 pc L (vR o :: S) M r Mf := r_callV_ (As := []) (r1 := (some w)) hd hl ok vi hM rfl hv hc hcl (Nat.le_of_ble_eq_true hlen) kk
theorem r_V0N (hd : Dc y pc (.invokevirtual idx) 3 pc') (hl : Cond.methodLink (mnm y).cls idx (mnm y') ∈ lw_g) (ok : mOK y' 0) (vi : mVirt y') (hv : vk M.2.1 o ci) (hc : ci < 8 ∧ cnm ci = (mnm y').cls) (hcl : clOK y y' t0 M M1) (hlen : Nat.ble S.length 8 = true) (hM : MetC y' [vR o] M none M1) (kk : SPW y t0 pc' L S M1 r Mf) : SPW y t0 pc L (vR o :: S) M r Mf := r_callV_ (As := []) (r1 := none) hd hl ok vi hM rfl hv hc hcl (Nat.le_of_ble_eq_true hlen) kk
theorem r_V1W (hd : Dc y pc (.invokevirtual idx) 3 pc') (hl : Cond.methodLink (mnm y).cls idx (mnm y') ∈ lw_g) (ok : mOK y' 1) (vi : mVirt y') (hv : vk M.2.1 o ci) (hc : ci < 8 ∧ cnm ci = (mnm y').cls) (hcl : clOK y y' t0 M M1) (hlen : Nat.ble S.length 8 = true) (hM : MetC y' [vR o, v1] M (some w) M1) (kk : SPW y t0 pc' L (w :: S) M1 r Mf) : SPW y t0 pc L (v1 :: vR o :: S) M r Mf := r_callV_ (As := [v1]) (r1 := (some w)) hd hl ok vi hM rfl hv hc hcl (Nat.le_of_ble_eq_true hlen) kk
theorem r_V1N (hd : Dc y pc (.invokevirtual idx) 3 pc') (hl : Cond.methodLink (mnm y).cls idx (mnm y') ∈ lw_g) (ok : mOK y' 1) (vi : mVirt y') (hv : vk M.2.1 o ci) (hc : ci < 8 ∧ cnm ci = (mnm y').cls) (hcl : clOK y y' t0 M M1) (hlen : Nat.ble S.length 8 = true) (hM : MetC y' [vR o, v1] M none M1) (kk : SPW y t0 pc' L S M1 r Mf) : SPW y t0 pc L (v1 :: vR o :: S) M r Mf := r_callV_ (As := [v1]) (r1 := none) hd hl ok vi hM rfl hv hc hcl (Nat.le_of_ble_eq_true hlen) kk
theorem r_V2W (hd : Dc y pc (.invokevirtual idx) 3 pc') (hl : Cond.methodLink (mnm y).cls idx (mnm y') ∈ lw_g) (ok : mOK y' 2) (vi : mVirt y') (hv : vk M.2.1 o ci) (hc : ci < 8 ∧ cnm ci = (mnm y').cls) (hcl : clOK y y' t0 M M1) (hlen : Nat.ble S.length 8 = true) (hM : MetC y' [vR o, v1, v2] M (some w) M1) (kk : SPW y t0 pc' L (w :: S) M1 r Mf) : SPW y t0 pc L (v2 :: v1 :: vR o :: S) M r Mf := r_callV_ (As := [v1, v2]) (r1 := (some w)) hd hl ok vi hM rfl hv hc hcl (Nat.le_of_ble_eq_true hlen) kk
theorem r_V2N (hd : Dc y pc (.invokevirtual idx) 3 pc') (hl : Cond.methodLink (mnm y).cls idx (mnm y') ∈ lw_g) (ok : mOK y' 2) (vi : mVirt y') (hv : vk M.2.1 o ci) (hc : ci < 8 ∧ cnm ci = (mnm y').cls) (hcl : clOK y y' t0 M M1) (hlen : Nat.ble S.length 8 = true) (hM : MetC y' [vR o, v1, v2] M none M1) (kk : SPW y t0 pc' L S M1 r Mf) : SPW y t0 pc L (v2 :: v1 :: vR o :: S) M r Mf := r_callV_ (As := [v1, v2]) (r1 := none) hd hl ok vi hM rfl hv hc hcl (Nat.le_of_ble_eq_true hlen) kk
theorem r_V3W (hd : Dc y pc (.invokevirtual idx) 3 pc') (hl : Cond.methodLink (mnm y).cls idx (mnm y') ∈ lw_g) (ok : mOK y' 3) (vi : mVirt y') (hv : vk M.2.1 o ci) (hc : ci < 8 ∧ cnm ci = (mnm y').cls) (hcl : clOK y y' t0 M M1) (hlen : Nat.ble S.length 8 = true) (hM : MetC y' [vR o, v1, v2, v3] M (some w) M1) (kk : SPW y t0 pc' L (w :: S) M1 r Mf) : SPW y t0 pc L (v3 :: v2 :: v1 :: vR o :: S) M r Mf := r_callV_ (As := [v1, v2, v3]) (r1 := (some w)) hd hl ok vi hM rfl hv hc hcl (Nat.le_of_ble_eq_true hlen) kk
theorem r_V3N (hd : Dc y pc (.invokevirtual idx) 3 pc') (hl : Cond.methodLink (mnm y).cls idx (mnm y') ∈ lw_g) (ok : mOK y' 3) (vi : mVirt y') (hv : vk M.2.1 o ci) (hc : ci < 8 ∧ cnm ci = (mnm y').cls) (hcl : clOK y y' t0 M M1) (hlen : Nat.ble S.length 8 = true) (hM : MetC y' [vR o, v1, v2, v3] M none M1) (kk : SPW y t0 pc' L S M1 r Mf) : SPW y t0 pc L (v3 :: v2 :: v1 :: vR o :: S) M r Mf := r_callV_ (As := [v1, v2, v3]) (r1 := none) hd hl ok vi hM rfl hv hc hcl (Nat.le_of_ble_eq_true hlen) kk
theorem r_V4W (hd : Dc y pc (.invokevirtual idx) 3 pc') (hl : Cond.methodLink (mnm y).cls idx (mnm y') ∈ lw_g) (ok : mOK y' 4) (vi : mVirt y') (hv : vk M.2.1 o ci) (hc : ci < 8 ∧ cnm ci = (mnm y').cls) (hcl : clOK y y' t0 M M1) (hlen : Nat.ble S.length 8 = true) (hM : MetC y' [vR o, v1, v2, v3, v4] M (some w) M1) (kk : SPW y t0 pc' L (w :: S) M1 r Mf) : SPW y t0 pc L (v4 :: v3 :: v2 :: v1 :: vR o :: S) M r Mf := r_callV_ (As := [v1, v2, v3, v4]) (r1 := (some w)) hd hl ok vi hM rfl hv hc hcl (Nat.le_of_ble_eq_true hlen) kk
theorem r_V4N (hd : Dc y pc (.invokevirtual idx) 3 pc') (hl : Cond.methodLink (mnm y).cls idx (mnm y') ∈ lw_g) (ok : mOK y' 4) (vi : mVirt y') (hv : vk M.2.1 o ci) (hc : ci < 8 ∧ cnm ci = (mnm y').cls) (hcl : clOK y y' t0 M M1) (hlen : Nat.ble S.length 8 = true) (hM : MetC y' [vR o, v1, v2, v3, v4] M none M1) (kk : SPW y t0 pc' L S M1 r Mf) : SPW y t0 pc L (v4 :: v3 :: v2 :: v1 :: vR o :: S) M r Mf := r_callV_ (As := [v1, v2, v3, v4]) (r1 := none) hd hl ok vi hM rfl hv hc hcl (Nat.le_of_ble_eq_true hlen) kk
theorem r_S0W (hd : Dc y pc (.invokestatic idx) 3 pc') (hl : Cond.methodLink (mnm y).cls idx (mnm y') ∈ lw_g) (ok : mOK y' 0) (sta : Cond.static (mnm y') ∈ lw_g) (hcl : clOK y y' t0 M M1) (hlen : Nat.ble S.length 8 = true) (hM : MetC y' [] M (some w) M1) (kk : SPW y t0 pc' L (w :: S) M1 r Mf) : SPW y t0 pc L (S) M r Mf := r_callS_ (As := []) (r1 := (some w)) hd hl ok sta hM rfl hcl (Nat.le_of_ble_eq_true hlen) kk
theorem r_S0N (hd : Dc y pc (.invokestatic idx) 3 pc') (hl : Cond.methodLink (mnm y).cls idx (mnm y') ∈ lw_g) (ok : mOK y' 0) (sta : Cond.static (mnm y') ∈ lw_g) (hcl : clOK y y' t0 M M1) (hlen : Nat.ble S.length 8 = true) (hM : MetC y' [] M none M1) (kk : SPW y t0 pc' L S M1 r Mf) : SPW y t0 pc L (S) M r Mf := r_callS_ (As := []) (r1 := none) hd hl ok sta hM rfl hcl (Nat.le_of_ble_eq_true hlen) kk
theorem r_S1W (hd : Dc y pc (.invokestatic idx) 3 pc') (hl : Cond.methodLink (mnm y).cls idx (mnm y') ∈ lw_g) (ok : mOK y' 1) (sta : Cond.static (mnm y') ∈ lw_g) (hcl : clOK y y' t0 M M1) (hlen : Nat.ble S.length 8 = true) (hM : MetC y' [v1] M (some w) M1) (kk : SPW y t0 pc' L (w :: S) M1 r Mf) : SPW y t0 pc L (v1 :: S) M r Mf := r_callS_ (As := [v1]) (r1 := (some w)) hd hl ok sta hM rfl hcl (Nat.le_of_ble_eq_true hlen) kk
theorem r_S1N (hd : Dc y pc (.invokestatic idx) 3 pc') (hl : Cond.methodLink (mnm y).cls idx (mnm y') ∈ lw_g) (ok : mOK y' 1) (sta : Cond.static (mnm y') ∈ lw_g) (hcl : clOK y y' t0 M M1) (hlen : Nat.ble S.length 8 = true) (hM : MetC y' [v1] M none M1) (kk : SPW y t0 pc' L S M1 r Mf) : SPW y t0 pc L (v1 :: S) M r Mf := r_callS_ (As := [v1]) (r1 := none) hd hl ok sta hM rfl hcl (Nat.le_of_ble_eq_true hlen) kk
theorem r_S2W (hd : Dc y pc (.invokestatic idx) 3 pc') (hl : Cond.methodLink (mnm y).cls idx (mnm y') ∈ lw_g) (ok : mOK y' 2) (sta : Cond.static (mnm y') ∈ lw_g) (hcl : clOK y y' t0 M M1) (hlen : Nat.ble S.length 8 = true) (hM : MetC y' [v1, v2] M (some w) M1) (kk : SPW y t0 pc' L (w :: S) M1 r Mf) : SPW y t0 pc L (v2 :: v1 :: S) M r Mf := r_callS_ (As := [v1, v2]) (r1 := (some w)) hd hl ok sta hM rfl hcl (Nat.le_of_ble_eq_true hlen) kk
theorem r_S2N (hd : Dc y pc (.invokestatic idx) 3 pc') (hl : Cond.methodLink (mnm y).cls idx (mnm y') ∈ lw_g) (ok : mOK y' 2) (sta : Cond.static (mnm y') ∈ lw_g) (hcl : clOK y y' t0 M M1) (hlen : Nat.ble S.length 8 = true) (hM : MetC y' [v1, v2] M none M1) (kk : SPW y t0 pc' L S M1 r Mf) : SPW y t0 pc L (v2 :: v1 :: S) M r Mf := r_callS_ (As := [v1, v2]) (r1 := none) hd hl ok sta hM rfl hcl (Nat.le_of_ble_eq_true hlen) kk
theorem r_S3W (hd : Dc y pc (.invokestatic idx) 3 pc') (hl : Cond.methodLink (mnm y).cls idx (mnm y') ∈ lw_g) (ok : mOK y' 3) (sta : Cond.static (mnm y') ∈ lw_g) (hcl : clOK y y' t0 M M1) (hlen : Nat.ble S.length 8 = true) (hM : MetC y' [v1, v2, v3] M (some w) M1) (kk : SPW y t0 pc' L (w :: S) M1 r Mf) : SPW y t0 pc L (v3 :: v2 :: v1 :: S) M r Mf := r_callS_ (As := [v1, v2, v3]) (r1 := (some w)) hd hl ok sta hM rfl hcl (Nat.le_of_ble_eq_true hlen) kk
theorem r_S3N (hd : Dc y pc (.invokestatic idx) 3 pc') (hl : Cond.methodLink (mnm y).cls idx (mnm y') ∈ lw_g) (ok : mOK y' 3) (sta : Cond.static (mnm y') ∈ lw_g) (hcl : clOK y y' t0 M M1) (hlen : Nat.ble S.length 8 = true) (hM : MetC y' [v1, v2, v3] M none M1) (kk : SPW y t0 pc' L S M1 r Mf) : SPW y t0 pc L (v3 :: v2 :: v1 :: S) M r Mf := r_callS_ (As := [v1, v2, v3]) (r1 := none) hd hl ok sta hM rfl hcl (Nat.le_of_ble_eq_true hlen) kk
theorem r_I0N (hd : Dc y pc (.invokespecial idx) 3 pc') (hl : Cond.methodLink (mnm y).cls idx (mnm y') ∈ lw_g) (ok : mOK y' 0) (inst : Cond.instanceMethod (mnm y') ∈ lw_g) (hy : (mnm y').name = "<init>" ∧ mrt y' = none) (hcl : clOK y y' t0 M M1) (hlen : Nat.ble S.length 8 = true) (hM : MetC y' [vR o] M none M1) (kk : SPW y t0 pc' L S M1 r Mf) : SPW y t0 pc L (vR o :: S) M r Mf := r_callI_ (As := []) (r1 := none) hd hl ok inst hy hM rfl hcl (Nat.le_of_ble_eq_true hlen) kk
theorem r_I1N (hd : Dc y pc (.invokespecial idx) 3 pc') (hl : Cond.methodLink (mnm y).cls idx (mnm y') ∈ lw_g) (ok : mOK y' 1) (inst : Cond.instanceMethod (mnm y') ∈ lw_g) (hy : (mnm y').name = "<init>" ∧ mrt y' = none) (hcl : clOK y y' t0 M M1) (hlen : Nat.ble S.length 8 = true) (hM : MetC y' [vR o, v1] M none M1) (kk : SPW y t0 pc' L S M1 r Mf) : SPW y t0 pc L (v1 :: vR o :: S) M r Mf := r_callI_ (As := [v1]) (r1 := none) hd hl ok inst hy hM rfl hcl (Nat.le_of_ble_eq_true hlen) kk
theorem r_I2N (hd : Dc y pc (.invokespecial idx) 3 pc') (hl : Cond.methodLink (mnm y).cls idx (mnm y') ∈ lw_g) (ok : mOK y' 2) (inst : Cond.instanceMethod (mnm y') ∈ lw_g) (hy : (mnm y').name = "<init>" ∧ mrt y' = none) (hcl : clOK y y' t0 M M1) (hlen : Nat.ble S.length 8 = true) (hM : MetC y' [vR o, v1, v2] M none M1) (kk : SPW y t0 pc' L S M1 r Mf) : SPW y t0 pc L (v2 :: v1 :: vR o :: S) M r Mf := r_callI_ (As := [v1, v2]) (r1 := none) hd hl ok inst hy hM rfl hcl (Nat.le_of_ble_eq_true hlen) kk
end RS
end
section
/-! decode rows, printed by wip/whole/gen_dec.py -/
theorem dd_Poo_init_0 : Dc mi_Poo_init 0 (.aload_n 0) 1 1 := ⟨by decide +kernel, rfl⟩
theorem dd_Poo_init_1 : Dc mi_Poo_init 1 (.invokespecial 1) 3 4 := ⟨by decide +kernel, rfl⟩
theorem dd_Poo_init_4 : Dc mi_Poo_init 4 (.aload_n 0) 1 5 := ⟨by decide +kernel, rfl⟩
theorem dd_Poo_init_5 : Dc mi_Poo_init 5 (.new 7) 3 8 := ⟨by decide +kernel, rfl⟩
theorem dd_Poo_init_8 : Dc mi_Poo_init 8 (.dup) 1 9 := ⟨by decide +kernel, rfl⟩
theorem dd_Poo_init_9 : Dc mi_Poo_init 9 (.invokespecial 9) 3 12 := ⟨by decide +kernel, rfl⟩
theorem dd_Poo_init_12 : Dc mi_Poo_init 12 (.putfield 10) 3 15 := ⟨by decide +kernel, rfl⟩
theorem dd_Poo_init_15 : Dc mi_Poo_init 15 (.aload_n 0) 1 16 := ⟨by decide +kernel, rfl⟩
theorem dd_Poo_init_16 : Dc mi_Poo_init 16 (.new 7) 3 19 := ⟨by decide +kernel, rfl⟩
theorem dd_Poo_init_19 : Dc mi_Poo_init 19 (.dup) 1 20 := ⟨by decide +kernel, rfl⟩
theorem dd_Poo_init_20 : Dc mi_Poo_init 20 (.invokespecial 9) 3 23 := ⟨by decide +kernel, rfl⟩
theorem dd_Poo_init_23 : Dc mi_Poo_init 23 (.putfield 16) 3 26 := ⟨by decide +kernel, rfl⟩
theorem dd_Poo_init_26 : Dc mi_Poo_init 26 (.aload_n 0) 1 27 := ⟨by decide +kernel, rfl⟩
theorem dd_Poo_init_27 : Dc mi_Poo_init 27 (.new 7) 3 30 := ⟨by decide +kernel, rfl⟩
theorem dd_Poo_init_30 : Dc mi_Poo_init 30 (.dup) 1 31 := ⟨by decide +kernel, rfl⟩
theorem dd_Poo_init_31 : Dc mi_Poo_init 31 (.invokespecial 9) 3 34 := ⟨by decide +kernel, rfl⟩
theorem dd_Poo_init_34 : Dc mi_Poo_init 34 (.putfield 19) 3 37 := ⟨by decide +kernel, rfl⟩
theorem dd_Poo_init_37 : Dc mi_Poo_init 37 (.aload_n 0) 1 38 := ⟨by decide +kernel, rfl⟩
theorem dd_Poo_init_38 : Dc mi_Poo_init 38 (.new 22) 3 41 := ⟨by decide +kernel, rfl⟩
theorem dd_Poo_init_41 : Dc mi_Poo_init 41 (.dup) 1 42 := ⟨by decide +kernel, rfl⟩
theorem dd_Poo_init_42 : Dc mi_Poo_init 42 (.invokespecial 24) 3 45 := ⟨by decide +kernel, rfl⟩
theorem dd_Poo_init_45 : Dc mi_Poo_init 45 (.putfield 25) 3 48 := ⟨by decide +kernel, rfl⟩
theorem dd_Poo_init_48 : Dc mi_Poo_init 48 (.aload_n 0) 1 49 := ⟨by decide +kernel, rfl⟩
theorem dd_Poo_init_49 : Dc mi_Poo_init 49 (.new 29) 3 52 := ⟨by decide +kernel, rfl⟩
theorem dd_Poo_init_52 : Dc mi_Poo_init 52 (.dup) 1 53 := ⟨by decide +kernel, rfl⟩
theorem dd_Poo_init_53 : Dc mi_Poo_init 53 (.invokespecial 31) 3 56 := ⟨by decide +kernel, rfl⟩
theorem dd_Poo_init_56 : Dc mi_Poo_init 56 (.putfield 32) 3 59 := ⟨by decide +kernel, rfl⟩
theorem dd_Poo_init_59 : Dc mi_Poo_init 59 (.aload_n 0) 1 60 := ⟨by decide +kernel, rfl⟩
theorem dd_Poo_init_60 : Dc mi_Poo_init 60 (.iconst 3) 1 61 := ⟨by decide +kernel, rfl⟩
theorem dd_Poo_init_61 : Dc mi_Poo_init 61 (.newarray .int) 2 63 := ⟨by decide +kernel, rfl⟩
theorem dd_Poo_init_63 : Dc mi_Poo_init 63 (.putfield 36) 3 66 := ⟨by decide +kernel, rfl⟩
theorem dd_Poo_init_66 : decode (mbc mi_Poo_init) 66 = .ok (retI (mrt mi_Poo_init), 1) := by decide +kernel
theorem dd_Blk_init_0 : Dc mi_Blk_init 0 (.aload_n 0) 1 1 := ⟨by decide +kernel, rfl⟩
theorem dd_Blk_init_1 : Dc mi_Blk_init 1 (.invokespecial 3) 3 4 := ⟨by decide +kernel, rfl⟩
theorem dd_Blk_init_4 : Dc mi_Blk_init 4 (.aload_n 0) 1 5 := ⟨by decide +kernel, rfl⟩
theorem dd_Blk_init_5 : Dc mi_Blk_init 5 (.iload_n 1) 1 6 := ⟨by decide +kernel, rfl⟩
theorem dd_Blk_init_6 : Dc mi_Blk_init 6 (.putfield 9) 3 9 := ⟨by decide +kernel, rfl⟩
theorem dd_Blk_init_9 : Dc mi_Blk_init 9 (.aload_n 0) 1 10 := ⟨by decide +kernel, rfl⟩
theorem dd_Blk_init_10 : Dc mi_Blk_init 10 (.iload_n 2) 1 11 := ⟨by decide +kernel, rfl⟩
theorem dd_Blk_init_11 : Dc mi_Blk_init 11 (.putfield 15) 3 14 := ⟨by decide +kernel, rfl⟩
theorem dd_Blk_init_14 : Dc mi_Blk_init 14 (.aload_n 0) 1 15 := ⟨by decide +kernel, rfl⟩
theorem dd_Blk_init_15 : Dc mi_Blk_init 15 (.iconst (-1)) 1 16 := ⟨by decide +kernel, rfl⟩
theorem dd_Blk_init_16 : Dc mi_Blk_init 16 (.putfield 18) 3 19 := ⟨by decide +kernel, rfl⟩
theorem dd_Blk_init_19 : decode (mbc mi_Blk_init) 19 = .ok (retI (mrt mi_Blk_init), 1) := by decide +kernel
theorem dd_Tsk_init_0 : Dc mi_Tsk_init 0 (.aload_n 0) 1 1 := ⟨by decide +kernel, rfl⟩
theorem dd_Tsk_init_1 : Dc mi_Tsk_init 1 (.invokespecial 3) 3 4 := ⟨by decide +kernel, rfl⟩
theorem dd_Tsk_init_4 : Dc mi_Tsk_init 4 (.aload_n 0) 1 5 := ⟨by decide +kernel, rfl⟩
theorem dd_Tsk_init_5 : Dc mi_Tsk_init 5 (.iconst 1) 1 6 := ⟨by decide +kernel, rfl⟩
theorem dd_Tsk_init_6 : Dc mi_Tsk_init 6 (.putfield 9) 3 9 := ⟨by decide +kernel, rfl⟩
theorem dd_Tsk_init_9 : Dc mi_Tsk_init 9 (.aload_n 0) 1 10 := ⟨by decide +kernel, rfl⟩
theorem dd_Tsk_init_10 : Dc mi_Tsk_init 10 (.bipush 32) 2 12 := ⟨by decide +kernel, rfl⟩
theorem dd_Tsk_init_12 : Dc mi_Tsk_init 12 (.putfield 15) 3 15 := ⟨by decide +kernel, rfl⟩
theorem dd_Tsk_init_15 : decode (mbc mi_Tsk_init) 15 = .ok (retI (mrt mi_Tsk_init), 1) := by decide +kernel
theorem dd_His_init_0 : Dc mi_His_init 0 (.aload_n 0) 1 1 := ⟨by decide +kernel, rfl⟩
theorem dd_His_init_1 : Dc mi_His_init 1 (.invokespecial 3) 3 4 := ⟨by decide +kernel, rfl⟩
theorem dd_His_init_4 : Dc mi_His_init 4 (.aload_n 0) 1 5 := ⟨by decide +kernel, rfl⟩
theorem dd_His_init_5 : Dc mi_His_init 5 (.iconst 4) 1 6 := ⟨by decide +kernel, rfl⟩
theorem dd_His_init_6 : Dc mi_His_init 6 (.anewarray 9) 3 9 := ⟨by decide +kernel, rfl⟩
theorem dd_His_init_9 : Dc mi_His_init 9 (.putfield 11) 3 12 := ⟨by decide +kernel, rfl⟩
theorem dd_His_init_12 : Dc mi_His_init 12 (.iconst 0) 1 13 := ⟨by decide +kernel, rfl⟩
theorem dd_His_init_13 : Dc mi_His_init 13 (.istore_n 1) 1 14 := ⟨by decide +kernel, rfl⟩
theorem dd_His_init_14 : Dc mi_His_init 14 (.iload_n 1) 1 15 := ⟨by decide +kernel, rfl⟩
theorem dd_His_init_15 : Dc mi_His_init 15 (.iconst 4) 1 16 := ⟨by decide +kernel, rfl⟩
theorem dd_His_init_16 : Db mi_His_init 16 (.if_icmp .ge 22) 22 19 38 := ⟨by decide +kernel, rfl, rfl⟩
theorem dd_His_init_19 : Dc mi_His_init 19 (.aload_n 0) 1 20 := ⟨by decide +kernel, rfl⟩
theorem dd_His_init_20 : Dc mi_His_init 20 (.getfield 11) 3 23 := ⟨by decide +kernel, rfl⟩
theorem dd_His_init_23 : Dc mi_His_init 23 (.iload_n 1) 1 24 := ⟨by decide +kernel, rfl⟩
theorem dd_His_init_24 : Dc mi_His_init 24 (.new 9) 3 27 := ⟨by decide +kernel, rfl⟩
theorem dd_His_init_27 : Dc mi_His_init 27 (.dup) 1 28 := ⟨by decide +kernel, rfl⟩
theorem dd_His_init_28 : Dc mi_His_init 28 (.invokespecial 17) 3 31 := ⟨by decide +kernel, rfl⟩
theorem dd_His_init_31 : Dc mi_His_init 31 (.aastore) 1 32 := ⟨by decide +kernel, rfl⟩
theorem dd_His_init_32 : Dc mi_His_init 32 (.iinc 1 1) 3 35 := ⟨by decide +kernel, rfl⟩
theorem dd_His_init_35 : Db mi_His_init 35 (.goto (-21)) (-21) 38 14 := ⟨by decide +kernel, rfl, rfl⟩
theorem dd_His_init_38 : decode (mbc mi_His_init) 38 = .ok (retI (mrt mi_His_init), 1) := by decide +kernel
theorem dd_Txt_init_0 : Dc mi_Txt_init 0 (.aload_n 0) 1 1 := ⟨by decide +kernel, rfl⟩
theorem dd_Txt_init_1 : Dc mi_Txt_init 1 (.invokespecial 3) 3 4 := ⟨by decide +kernel, rfl⟩
theorem dd_Txt_init_4 : Dc mi_Txt_init 4 (.aload_n 0) 1 5 := ⟨by decide +kernel, rfl⟩
theorem dd_Txt_init_5 : Dc mi_Txt_init 5 (.bipush 60) 2 7 := ⟨by decide +kernel, rfl⟩
theorem dd_Txt_init_7 : Dc mi_Txt_init 7 (.newarray .char) 2 9 := ⟨by decide +kernel, rfl⟩
theorem dd_Txt_init_9 : Dc mi_Txt_init 9 (.putfield 9) 3 12 := ⟨by decide +kernel, rfl⟩
theorem dd_Txt_init_12 : Dc mi_Txt_init 12 (.aload_n 0) 1 13 := ⟨by decide +kernel, rfl⟩
theorem dd_Txt_init_13 : Dc mi_Txt_init 13 (.bipush 30) 2 15 := ⟨by decide +kernel, rfl⟩
theorem dd_Txt_init_15 : Dc mi_Txt_init 15 (.anewarray 15) 3 18 := ⟨by decide +kernel, rfl⟩
theorem dd_Txt_init_18 : Dc mi_Txt_init 18 (.putfield 17) 3 21 := ⟨by decide +kernel, rfl⟩
theorem dd_Txt_init_21 : Dc mi_Txt_init 21 (.iconst 0) 1 22 := ⟨by decide +kernel, rfl⟩
theorem dd_Txt_init_22 : Dc mi_Txt_init 22 (.istore_n 1) 1 23 := ⟨by decide +kernel, rfl⟩
theorem dd_Txt_init_23 : Dc mi_Txt_init 23 (.iload_n 1) 1 24 := ⟨by decide +kernel, rfl⟩
theorem dd_Txt_init_24 : Dc mi_Txt_init 24 (.bipush 30) 2 26 := ⟨by decide +kernel, rfl⟩
theorem dd_Txt_init_26 : Db mi_Txt_init 26 (.if_icmp .ge 22) 22 29 48 := ⟨by decide +kernel, rfl, rfl⟩
theorem dd_Txt_init_29 : Dc mi_Txt_init 29 (.aload_n 0) 1 30 := ⟨by decide +kernel, rfl⟩
theorem dd_Txt_init_30 : Dc mi_Txt_init 30 (.getfield 17) 3 33 := ⟨by decide +kernel, rfl⟩
theorem dd_Txt_init_33 : Dc mi_Txt_init 33 (.iload_n 1) 1 34 := ⟨by decide +kernel, rfl⟩
theorem dd_Txt_init_34 : Dc mi_Txt_init 34 (.new 15) 3 37 := ⟨by decide +kernel, rfl⟩
theorem dd_Txt_init_37 : Dc mi_Txt_init 37 (.dup) 1 38 := ⟨by decide +kernel, rfl⟩
theorem dd_Txt_init_38 : Dc mi_Txt_init 38 (.invokespecial 21) 3 41 := ⟨by decide +kernel, rfl⟩
theorem dd_Txt_init_41 : Dc mi_Txt_init 41 (.aastore) 1 42 := ⟨by decide +kernel, rfl⟩
theorem dd_Txt_init_42 : Dc mi_Txt_init 42 (.iinc 1 1) 3 45 := ⟨by decide +kernel, rfl⟩
theorem dd_Txt_init_45 : Db mi_Txt_init 45 (.goto (-22)) (-22) 48 23 := ⟨by decide +kernel, rfl, rfl⟩
theorem dd_Txt_init_48 : decode (mbc mi_Txt_init) 48 = .ok (retI (mrt mi_Txt_init), 1) := by decide +kernel
theorem dd_Cmd_init_0 : Dc mi_Cmd_init 0 (.aload_n 0) 1 1 := ⟨by decide +kernel, rfl⟩
theorem dd_Cmd_init_1 : Dc mi_Cmd_init 1 (.invokespecial 1) 3 4 := ⟨by decide +kernel, rfl⟩
theorem dd_Cmd_init_4 : decode (mbc mi_Cmd_init) 4 = .ok (retI (mrt mi_Cmd_init), 1) := by decide +kernel
theorem dd_Poo_ask_0 : Dc mi_Poo_ask 0 (.aload_n 0) 1 1 := ⟨by decide +kernel, rfl⟩
theorem dd_Poo_ask_1 : Dc mi_Poo_ask 1 (.getfield 16) 3 4 := ⟨by decide +kernel, rfl⟩
theorem dd_Poo_ask_4 : Dc mi_Poo_ask 4 (.aload_n 0) 1 5 := ⟨by decide +kernel, rfl⟩
theorem dd_Poo_ask_5 : Dc mi_Poo_ask 5 (.getfield 10) 3 8 := ⟨by decide +kernel, rfl⟩
theorem dd_Poo_ask_8 : Dc mi_Poo_ask 8 (.invokevirtual 40) 3 11 := ⟨by decide +kernel, rfl⟩
theorem dd_Poo_ask_11 : Dc mi_Poo_ask 11 (.aload_n 0) 1 12 := ⟨by decide +kernel, rfl⟩
theorem dd_Poo_ask_12 : Dc mi_Poo_ask 12 (.getfield 10) 3 15 := ⟨by decide +kernel, rfl⟩
theorem dd_Poo_ask_15 : Dc mi_Poo_ask 15 (.iload_n 1) 1 16 := ⟨by decide +kernel, rfl⟩
theorem dd_Poo_ask_16 : Dc mi_Poo_ask 16 (.iload_n 2) 1 17 := ⟨by decide +kernel, rfl⟩
theorem dd_Poo_ask_17 : Dc mi_Poo_ask 17 (.invokevirtual 44) 3 20 := ⟨by decide +kernel, rfl⟩
theorem dd_Poo_ask_20 : Dc mi_Poo_ask 20 (.istore_n 3) 1 21 := ⟨by decide +kernel, rfl⟩
theorem dd_Poo_ask_21 : Dc mi_Poo_ask 21 (.iload_n 3) 1 22 := ⟨by decide +kernel, rfl⟩
theorem dd_Poo_ask_22 : Dc mi_Poo_ask 22 (.bipush (-6)) 2 24 := ⟨by decide +kernel, rfl⟩
theorem dd_Poo_ask_24 : Db mi_Poo_ask 24 (.if_icmp .ne 16) 16 27 40 := ⟨by decide +kernel, rfl, rfl⟩
theorem dd_Poo_ask_27 : Dc mi_Poo_ask 27 (.aload_n 0) 1 28 := ⟨by decide +kernel, rfl⟩
theorem dd_Poo_ask_28 : Dc mi_Poo_ask 28 (.aload_n 0) 1 29 := ⟨by decide +kernel, rfl⟩
theorem dd_Poo_ask_29 : Dc mi_Poo_ask 29 (.getfield 10) 3 32 := ⟨by decide +kernel, rfl⟩
theorem dd_Poo_ask_32 : Dc mi_Poo_ask 32 (.iload_n 1) 1 33 := ⟨by decide +kernel, rfl⟩
theorem dd_Poo_ask_33 : Dc mi_Poo_ask 33 (.iload_n 2) 1 34 := ⟨by decide +kernel, rfl⟩
theorem dd_Poo_ask_34 : Dc mi_Poo_ask 34 (.invokevirtual 48) 3 37 := ⟨by decide +kernel, rfl⟩
theorem dd_Poo_ask_37 : Dc mi_Poo_ask 37 (.invokevirtual 51) 3 40 := ⟨by decide +kernel, rfl⟩
theorem dd_Poo_ask_40 : Dc mi_Poo_ask 40 (.aload_n 0) 1 41 := ⟨by decide +kernel, rfl⟩
theorem dd_Poo_ask_41 : Dc mi_Poo_ask 41 (.iload_n 3) 1 42 := ⟨by decide +kernel, rfl⟩
theorem dd_Poo_ask_42 : Dc mi_Poo_ask 42 (.invokevirtual 55) 3 45 := ⟨by decide +kernel, rfl⟩
theorem dd_Poo_ask_45 : decode (mbc mi_Poo_ask) 45 = .ok (retI (mrt mi_Poo_ask), 1) := by decide +kernel
theorem dd_Blk_copyFrom_0 : Dc mi_Blk_copyFrom 0 (.aload_n 0) 1 1 := ⟨by decide +kernel, rfl⟩
theorem dd_Blk_copyFrom_1 : Dc mi_Blk_copyFrom 1 (.aload_n 1) 1 2 := ⟨by decide +kernel, rfl⟩
theorem dd_Blk_copyFrom_2 : Dc mi_Blk_copyFrom 2 (.getfield 15) 3 5 := ⟨by decide +kernel, rfl⟩
theorem dd_Blk_copyFrom_5 : Dc mi_Blk_copyFrom 5 (.putfield 15) 3 8 := ⟨by decide +kernel, rfl⟩
theorem dd_Blk_copyFrom_8 : Dc mi_Blk_copyFrom 8 (.aload_n 0) 1 9 := ⟨by decide +kernel, rfl⟩
theorem dd_Blk_copyFrom_9 : Dc mi_Blk_copyFrom 9 (.aload_n 1) 1 10 := ⟨by decide +kernel, rfl⟩
theorem dd_Blk_copyFrom_10 : Dc mi_Blk_copyFrom 10 (.getfield 18) 3 13 := ⟨by decide +kernel, rfl⟩
theorem dd_Blk_copyFrom_13 : Dc mi_Blk_copyFrom 13 (.putfield 18) 3 16 := ⟨by decide +kernel, rfl⟩
theorem dd_Blk_copyFrom_16 : Dc mi_Blk_copyFrom 16 (.aload_n 0) 1 17 := ⟨by decide +kernel, rfl⟩
theorem dd_Blk_copyFrom_17 : Dc mi_Blk_copyFrom 17 (.aload_n 1) 1 18 := ⟨by decide +kernel, rfl⟩
theorem dd_Blk_copyFrom_18 : Dc mi_Blk_copyFrom 18 (.getfield 21) 3 21 := ⟨by decide +kernel, rfl⟩
theorem dd_Blk_copyFrom_21 : Dc mi_Blk_copyFrom 21 (.putfield 21) 3 24 := ⟨by decide +kernel, rfl⟩
theorem dd_Blk_copyFrom_24 : Dc mi_Blk_copyFrom 24 (.aload_n 0) 1 25 := ⟨by decide +kernel, rfl⟩
theorem dd_Blk_copyFrom_25 : Dc mi_Blk_copyFrom 25 (.aload_n 1) 1 26 := ⟨by decide +kernel, rfl⟩
theorem dd_Blk_copyFrom_26 : Dc mi_Blk_copyFrom 26 (.getfield 24) 3 29 := ⟨by decide +kernel, rfl⟩
theorem dd_Blk_copyFrom_29 : Dc mi_Blk_copyFrom 29 (.putfield 24) 3 32 := ⟨by decide +kernel, rfl⟩
theorem dd_Blk_copyFrom_32 : Dc mi_Blk_copyFrom 32 (.aload_n 0) 1 33 := ⟨by decide +kernel, rfl⟩
theorem dd_Blk_copyFrom_33 : Dc mi_Blk_copyFrom 33 (.aload_n 1) 1 34 := ⟨by decide +kernel, rfl⟩
theorem dd_Blk_copyFrom_34 : Dc mi_Blk_copyFrom 34 (.getfield 27) 3 37 := ⟨by decide +kernel, rfl⟩
theorem dd_Blk_copyFrom_37 : Dc mi_Blk_copyFrom 37 (.putfield 27) 3 40 := ⟨by decide +kernel, rfl⟩
theorem dd_Blk_copyFrom_40 : decode (mbc mi_Blk_copyFrom) 40 = .ok (retI (mrt mi_Blk_copyFrom), 1) := by decide +kernel
theorem dd_Tsk_copyFrom_0 : Dc mi_Tsk_copyFrom 0 (.aload_n 0) 1 1 := ⟨by decide +kernel, rfl⟩
theorem dd_Tsk_copyFrom_1 : Dc mi_Tsk_copyFrom 1 (.aload_n 1) 1 2 := ⟨by decide +kernel, rfl⟩
theorem dd_Tsk_copyFrom_2 : Dc mi_Tsk_copyFrom 2 (.getfield 9) 3 5 := ⟨by decide +kernel, rfl⟩
theorem dd_Tsk_copyFrom_5 : Dc mi_Tsk_copyFrom 5 (.putfield 9) 3 8 := ⟨by decide +kernel, rfl⟩
theorem dd_Tsk_copyFrom_8 : Dc mi_Tsk_copyFrom 8 (.aload_n 0) 1 9 := ⟨by decide +kernel, rfl⟩
theorem dd_Tsk_copyFrom_9 : Dc mi_Tsk_copyFrom 9 (.aload_n 1) 1 10 := ⟨by decide +kernel, rfl⟩
theorem dd_Tsk_copyFrom_10 : Dc mi_Tsk_copyFrom 10 (.getfield 15) 3 13 := ⟨by decide +kernel, rfl⟩
theorem dd_Tsk_copyFrom_13 : Dc mi_Tsk_copyFrom 13 (.putfield 15) 3 16 := ⟨by decide +kernel, rfl⟩
theorem dd_Tsk_copyFrom_16 : Dc mi_Tsk_copyFrom 16 (.aload_n 0) 1 17 := ⟨by decide +kernel, rfl⟩
theorem dd_Tsk_copyFrom_17 : Dc mi_Tsk_copyFrom 17 (.aload_n 1) 1 18 := ⟨by decide +kernel, rfl⟩
theorem dd_Tsk_copyFrom_18 : Dc mi_Tsk_copyFrom 18 (.getfield 19) 3 21 := ⟨by decide +kernel, rfl⟩
theorem dd_Tsk_copyFrom_21 : Dc mi_Tsk_copyFrom 21 (.putfield 19) 3 24 := ⟨by decide +kernel, rfl⟩
theorem dd_Tsk_copyFrom_24 : decode (mbc mi_Tsk_copyFrom) 24 = .ok (retI (mrt mi_Tsk_copyFrom), 1) := by decide +kernel
theorem dd_Blk_wordsOf_0 : Dc mi_Blk_wordsOf 0 (.iload_n 0) 1 1 := ⟨by decide +kernel, rfl⟩
theorem dd_Blk_wordsOf_1 : Db mi_Blk_wordsOf 1 (.ifCond .lt 8) 8 4 9 := ⟨by decide +kernel, rfl, rfl⟩
theorem dd_Blk_wordsOf_4 : Dc mi_Blk_wordsOf 4 (.iload_n 0) 1 5 := ⟨by decide +kernel, rfl⟩
theorem dd_Blk_wordsOf_5 : Dc mi_Blk_wordsOf 5 (.iconst 3) 1 6 := ⟨by decide +kernel, rfl⟩
theorem dd_Blk_wordsOf_6 : Db mi_Blk_wordsOf 6 (.if_icmp .lt 7) 7 9 13 := ⟨by decide +kernel, rfl, rfl⟩
theorem dd_Blk_wordsOf_9 : Dc mi_Blk_wordsOf 9 (.iconst 0) 1 10 := ⟨by decide +kernel, rfl⟩
theorem dd_Blk_wordsOf_10 : Db mi_Blk_wordsOf 10 (.goto 6) 6 13 16 := ⟨by decide +kernel, rfl, rfl⟩
theorem dd_Blk_wordsOf_13 : Dc mi_Blk_wordsOf 13 (.iconst 4) 1 14 := ⟨by decide +kernel, rfl⟩
theorem dd_Blk_wordsOf_14 : Dc mi_Blk_wordsOf 14 (.iload_n 0) 1 15 := ⟨by decide +kernel, rfl⟩
theorem dd_Blk_wordsOf_15 : Dc mi_Blk_wordsOf 15 (.ishl) 1 16 := ⟨by decide +kernel, rfl⟩
theorem dd_Blk_wordsOf_16 : decode (mbc mi_Blk_wordsOf) 16 = .ok (retI (mrt mi_Blk_wordsOf), 1) := by decide +kernel
theorem dd_Blk_words_0 : Dc mi_Blk_words 0 (.aload_n 0) 1 1 := ⟨by decide +kernel, rfl⟩
theorem dd_Blk_words_1 : Dc mi_Blk_words 1 (.getfield 15) 3 4 := ⟨by decide +kernel, rfl⟩
theorem dd_Blk_words_4 : Dc mi_Blk_words 4 (.invokestatic 30) 3 7 := ⟨by decide +kernel, rfl⟩
theorem dd_Blk_words_7 : decode (mbc mi_Blk_words) 7 = .ok (retI (mrt mi_Blk_words), 1) := by decide +kernel
theorem dd_Blk_isFreeOf_0 : Dc mi_Blk_isFreeOf 0 (.aload_n 0) 1 1 := ⟨by decide +kernel, rfl⟩
theorem dd_Blk_isFreeOf_1 : Dc mi_Blk_isFreeOf 1 (.getfield 15) 3 4 := ⟨by decide +kernel, rfl⟩
theorem dd_Blk_isFreeOf_4 : Dc mi_Blk_isFreeOf 4 (.iload_n 1) 1 5 := ⟨by decide +kernel, rfl⟩
theorem dd_Blk_isFreeOf_5 : Db mi_Blk_isFreeOf 5 (.if_icmp .ne 15) 15 8 20 := ⟨by decide +kernel, rfl, rfl⟩
theorem dd_Blk_isFreeOf_8 : Dc mi_Blk_isFreeOf 8 (.aload_n 0) 1 9 := ⟨by decide +kernel, rfl⟩
theorem dd_Blk_isFreeOf_9 : Dc mi_Blk_isFreeOf 9 (.getfield 18) 3 12 := ⟨by decide +kernel, rfl⟩
theorem dd_Blk_isFreeOf_12 : Dc mi_Blk_isFreeOf 12 (.iconst (-1)) 1 13 := ⟨by decide +kernel, rfl⟩
theorem dd_Blk_isFreeOf_13 : Db mi_Blk_isFreeOf 13 (.if_icmp .ne 7) 7 16 20 := ⟨by decide +kernel, rfl, rfl⟩
theorem dd_Blk_isFreeOf_16 : Dc mi_Blk_isFreeOf 16 (.iconst 1) 1 17 := ⟨by decide +kernel, rfl⟩
theorem dd_Blk_isFreeOf_17 : Db mi_Blk_isFreeOf 17 (.goto 4) 4 20 21 := ⟨by decide +kernel, rfl, rfl⟩
theorem dd_Blk_isFreeOf_20 : Dc mi_Blk_isFreeOf 20 (.iconst 0) 1 21 := ⟨by decide +kernel, rfl⟩
theorem dd_Blk_isFreeOf_21 : decode (mbc mi_Blk_isFreeOf) 21 = .ok (retI (mrt mi_Blk_isFreeOf), 1) := by decide +kernel
theorem dd_Poo_countRefusal_0 : Dc mi_Poo_countRefusal 0 (.iload_n 1) 1 1 := ⟨by decide +kernel, rfl⟩
theorem dd_Poo_countRefusal_1 : Dc mi_Poo_countRefusal 1 (.iconst 1) 1 2 := ⟨by decide +kernel, rfl⟩
theorem dd_Poo_countRefusal_2 : Db mi_Poo_countRefusal 2 (.if_icmp .lt 20) 20 5 22 := ⟨by decide +kernel, rfl, rfl⟩
theorem dd_Poo_countRefusal_5 : Dc mi_Poo_countRefusal 5 (.iload_n 1) 1 6 := ⟨by decide +kernel, rfl⟩
theorem dd_Poo_countRefusal_6 : Dc mi_Poo_countRefusal 6 (.iconst 3) 1 7 := ⟨by decide +kernel, rfl⟩
theorem dd_Poo_countRefusal_7 : Db mi_Poo_countRefusal 7 (.if_icmp .gt 15) 15 10 22 := ⟨by decide +kernel, rfl, rfl⟩
theorem dd_Poo_countRefusal_10 : Dc mi_Poo_countRefusal 10 (.aload_n 0) 1 11 := ⟨by decide +kernel, rfl⟩
theorem dd_Poo_countRefusal_11 : Dc mi_Poo_countRefusal 11 (.getfield 36) 3 14 := ⟨by decide +kernel, rfl⟩
theorem dd_Poo_countRefusal_14 : Dc mi_Poo_countRefusal 14 (.iload_n 1) 1 15 := ⟨by decide +kernel, rfl⟩
theorem dd_Poo_countRefusal_15 : Dc mi_Poo_countRefusal 15 (.iconst 1) 1 16 := ⟨by decide +kernel, rfl⟩
theorem dd_Poo_countRefusal_16 : Dc mi_Poo_countRefusal 16 (.isub) 1 17 := ⟨by decide +kernel, rfl⟩
theorem dd_Poo_countRefusal_17 : Dc mi_Poo_countRefusal 17 (.dup2) 1 18 := ⟨by decide +kernel, rfl⟩
theorem dd_Poo_countRefusal_18 : Dc mi_Poo_countRefusal 18 (.iaload) 1 19 := ⟨by decide +kernel, rfl⟩
theorem dd_Poo_countRefusal_19 : Dc mi_Poo_countRefusal 19 (.iconst 1) 1 20 := ⟨by decide +kernel, rfl⟩
theorem dd_Poo_countRefusal_20 : Dc mi_Poo_countRefusal 20 (.iadd) 1 21 := ⟨by decide +kernel, rfl⟩
theorem dd_Poo_countRefusal_21 : Dc mi_Poo_countRefusal 21 (.iastore) 1 22 := ⟨by decide +kernel, rfl⟩
theorem dd_Poo_countRefusal_22 : decode (mbc mi_Poo_countRefusal) 22 = .ok (retI (mrt mi_Poo_countRefusal), 1) := by decide +kernel
theorem dd_Poo_recorded_0 : Dc mi_Poo_recorded 0 (.iload_n 1) 1 1 := ⟨by decide +kernel, rfl⟩
theorem dd_Poo_recorded_1 : Db mi_Poo_recorded 1 (.ifCond .lt 14) 14 4 15 := ⟨by decide +kernel, rfl, rfl⟩
theorem dd_Poo_recorded_4 : Dc mi_Poo_recorded 4 (.aload_n 0) 1 5 := ⟨by decide +kernel, rfl⟩
theorem dd_Poo_recorded_5 : Dc mi_Poo_recorded 5 (.getfield 25) 3 8 := ⟨by decide +kernel, rfl⟩
theorem dd_Poo_recorded_8 : Dc mi_Poo_recorded 8 (.aload_n 0) 1 9 := ⟨by decide +kernel, rfl⟩
theorem dd_Poo_recorded_9 : Dc mi_Poo_recorded 9 (.getfield 16) 3 12 := ⟨by decide +kernel, rfl⟩
theorem dd_Poo_recorded_12 : Dc mi_Poo_recorded 12 (.invokevirtual 161) 3 15 := ⟨by decide +kernel, rfl⟩
theorem dd_Poo_recorded_15 : Dc mi_Poo_recorded 15 (.iload_n 1) 1 16 := ⟨by decide +kernel, rfl⟩
theorem dd_Poo_recorded_16 : decode (mbc mi_Poo_recorded) 16 = .ok (retI (mrt mi_Poo_recorded), 1) := by decide +kernel
theorem dd_His_record_0 : Dc mi_His_record 0 (.aload_n 0) 1 1 := ⟨by decide +kernel, rfl⟩
theorem dd_His_record_1 : Dc mi_His_record 1 (.getfield 22) 3 4 := ⟨by decide +kernel, rfl⟩
theorem dd_His_record_4 : Db mi_His_record 4 (.ifCond .lt 11) 11 7 15 := ⟨by decide +kernel, rfl, rfl⟩
theorem dd_His_record_7 : Dc mi_His_record 7 (.aload_n 0) 1 8 := ⟨by decide +kernel, rfl⟩
theorem dd_His_record_8 : Dc mi_His_record 8 (.getfield 22) 3 11 := ⟨by decide +kernel, rfl⟩
theorem dd_His_record_11 : Dc mi_His_record 11 (.iconst 4) 1 12 := ⟨by decide +kernel, rfl⟩
theorem dd_His_record_12 : Db mi_His_record 12 (.if_icmp .lt 4) 4 15 16 := ⟨by decide +kernel, rfl, rfl⟩
theorem dd_His_record_15 : decode (mbc mi_His_record) 15 = .ok (retI (mrt mi_His_record), 1) := by decide +kernel
theorem dd_His_record_16 : Dc mi_His_record 16 (.aload_n 0) 1 17 := ⟨by decide +kernel, rfl⟩
theorem dd_His_record_17 : Dc mi_His_record 17 (.getfield 11) 3 20 := ⟨by decide +kernel, rfl⟩
theorem dd_His_record_20 : Dc mi_His_record 20 (.aload_n 0) 1 21 := ⟨by decide +kernel, rfl⟩
theorem dd_His_record_21 : Dc mi_His_record 21 (.getfield 22) 3 24 := ⟨by decide +kernel, rfl⟩
theorem dd_His_record_24 : Dc mi_His_record 24 (.aaload) 1 25 := ⟨by decide +kernel, rfl⟩
theorem dd_His_record_25 : Dc mi_His_record 25 (.aload_n 1) 1 26 := ⟨by decide +kernel, rfl⟩
theorem dd_His_record_26 : Dc mi_His_record 26 (.invokevirtual 25) 3 29 := ⟨by decide +kernel, rfl⟩
theorem dd_His_record_29 : Dc mi_His_record 29 (.aload_n 0) 1 30 := ⟨by decide +kernel, rfl⟩
theorem dd_His_record_30 : Dc mi_His_record 30 (.aload_n 0) 1 31 := ⟨by decide +kernel, rfl⟩
theorem dd_His_record_31 : Dc mi_His_record 31 (.getfield 22) 3 34 := ⟨by decide +kernel, rfl⟩
theorem dd_His_record_34 : Dc mi_His_record 34 (.iconst 1) 1 35 := ⟨by decide +kernel, rfl⟩
theorem dd_His_record_35 : Dc mi_His_record 35 (.iadd) 1 36 := ⟨by decide +kernel, rfl⟩
theorem dd_His_record_36 : Dc mi_His_record 36 (.iconst 4) 1 37 := ⟨by decide +kernel, rfl⟩
theorem dd_His_record_37 : Dc mi_His_record 37 (.irem) 1 38 := ⟨by decide +kernel, rfl⟩
theorem dd_His_record_38 : Dc mi_His_record 38 (.putfield 22) 3 41 := ⟨by decide +kernel, rfl⟩
theorem dd_His_record_41 : Dc mi_His_record 41 (.aload_n 0) 1 42 := ⟨by decide +kernel, rfl⟩
theorem dd_His_record_42 : Dc mi_His_record 42 (.aload_n 0) 1 43 := ⟨by decide +kernel, rfl⟩
theorem dd_His_record_43 : Dc mi_His_record 43 (.getfield 18) 3 46 := ⟨by decide +kernel, rfl⟩
theorem dd_His_record_46 : Dc mi_His_record 46 (.iconst 1) 1 47 := ⟨by decide +kernel, rfl⟩
theorem dd_His_record_47 : Dc mi_His_record 47 (.iadd) 1 48 := ⟨by decide +kernel, rfl⟩
theorem dd_His_record_48 : Dc mi_His_record 48 (.iconst 4) 1 49 := ⟨by decide +kernel, rfl⟩
theorem dd_His_record_49 : Dc mi_His_record 49 (.invokestatic 29) 3 52 := ⟨by decide +kernel, rfl⟩
theorem dd_His_record_52 : Dc mi_His_record 52 (.putfield 18) 3 55 := ⟨by decide +kernel, rfl⟩
theorem dd_His_record_55 : decode (mbc mi_His_record) 55 = .ok (retI (mrt mi_His_record), 1) := by decide +kernel
theorem dd_Poo_giveBack_0 : Dc mi_Poo_giveBack 0 (.aload_n 0) 1 1 := ⟨by decide +kernel, rfl⟩
theorem dd_Poo_giveBack_1 : Dc mi_Poo_giveBack 1 (.getfield 16) 3 4 := ⟨by decide +kernel, rfl⟩
theorem dd_Poo_giveBack_4 : Dc mi_Poo_giveBack 4 (.aload_n 0) 1 5 := ⟨by decide +kernel, rfl⟩
theorem dd_Poo_giveBack_5 : Dc mi_Poo_giveBack 5 (.getfield 10) 3 8 := ⟨by decide +kernel, rfl⟩
theorem dd_Poo_giveBack_8 : Dc mi_Poo_giveBack 8 (.invokevirtual 40) 3 11 := ⟨by decide +kernel, rfl⟩
theorem dd_Poo_giveBack_11 : Dc mi_Poo_giveBack 11 (.aload_n 0) 1 12 := ⟨by decide +kernel, rfl⟩
theorem dd_Poo_giveBack_12 : Dc mi_Poo_giveBack 12 (.aload_n 0) 1 13 := ⟨by decide +kernel, rfl⟩
theorem dd_Poo_giveBack_13 : Dc mi_Poo_giveBack 13 (.getfield 10) 3 16 := ⟨by decide +kernel, rfl⟩
theorem dd_Poo_giveBack_16 : Dc mi_Poo_giveBack 16 (.iload_n 1) 1 17 := ⟨by decide +kernel, rfl⟩
theorem dd_Poo_giveBack_17 : Dc mi_Poo_giveBack 17 (.iload_n 2) 1 18 := ⟨by decide +kernel, rfl⟩
theorem dd_Poo_giveBack_18 : Dc mi_Poo_giveBack 18 (.invokevirtual 59) 3 21 := ⟨by decide +kernel, rfl⟩
theorem dd_Poo_giveBack_21 : Dc mi_Poo_giveBack 21 (.invokevirtual 55) 3 24 := ⟨by decide +kernel, rfl⟩
theorem dd_Poo_giveBack_24 : decode (mbc mi_Poo_giveBack) 24 = .ok (retI (mrt mi_Poo_giveBack), 1) := by decide +kernel
theorem dd_Blk_isOwned_0 : Dc mi_Blk_isOwned 0 (.aload_n 0) 1 1 := ⟨by decide +kernel, rfl⟩
theorem dd_Blk_isOwned_1 : Dc mi_Blk_isOwned 1 (.getfield 18) 3 4 := ⟨by decide +kernel, rfl⟩
theorem dd_Blk_isOwned_4 : Dc mi_Blk_isOwned 4 (.iconst (-1)) 1 5 := ⟨by decide +kernel, rfl⟩
theorem dd_Blk_isOwned_5 : Db mi_Blk_isOwned 5 (.if_icmp .eq 7) 7 8 12 := ⟨by decide +kernel, rfl, rfl⟩
theorem dd_Blk_isOwned_8 : Dc mi_Blk_isOwned 8 (.iconst 1) 1 9 := ⟨by decide +kernel, rfl⟩
theorem dd_Blk_isOwned_9 : Db mi_Blk_isOwned 9 (.goto 4) 4 12 13 := ⟨by decide +kernel, rfl, rfl⟩
theorem dd_Blk_isOwned_12 : Dc mi_Blk_isOwned 12 (.iconst 0) 1 13 := ⟨by decide +kernel, rfl⟩
theorem dd_Blk_isOwned_13 : decode (mbc mi_Blk_isOwned) 13 = .ok (retI (mrt mi_Blk_isOwned), 1) := by decide +kernel
theorem dd_Blk_rearGuard_0 : Dc mi_Blk_rearGuard 0 (.aload_n 0) 1 1 := ⟨by decide +kernel, rfl⟩
theorem dd_Blk_rearGuard_1 : Dc mi_Blk_rearGuard 1 (.getfield 9) 3 4 := ⟨by decide +kernel, rfl⟩
theorem dd_Blk_rearGuard_4 : Dc mi_Blk_rearGuard 4 (.iconst 1) 1 5 := ⟨by decide +kernel, rfl⟩
theorem dd_Blk_rearGuard_5 : Dc mi_Blk_rearGuard 5 (.iadd) 1 6 := ⟨by decide +kernel, rfl⟩
theorem dd_Blk_rearGuard_6 : Dc mi_Blk_rearGuard 6 (.aload_n 0) 1 7 := ⟨by decide +kernel, rfl⟩
theorem dd_Blk_rearGuard_7 : Dc mi_Blk_rearGuard 7 (.getfield 24) 3 10 := ⟨by decide +kernel, rfl⟩
theorem dd_Blk_rearGuard_10 : Dc mi_Blk_rearGuard 10 (.iadd) 1 11 := ⟨by decide +kernel, rfl⟩
theorem dd_Blk_rearGuard_11 : decode (mbc mi_Blk_rearGuard) 11 = .ok (retI (mrt mi_Blk_rearGuard), 1) := by decide +kernel
theorem dd_Poo_write_0 : Dc mi_Poo_write 0 (.aload_n 0) 1 1 := ⟨by decide +kernel, rfl⟩
theorem dd_Poo_write_1 : Dc mi_Poo_write 1 (.getfield 16) 3 4 := ⟨by decide +kernel, rfl⟩
theorem dd_Poo_write_4 : Dc mi_Poo_write 4 (.aload_n 0) 1 5 := ⟨by decide +kernel, rfl⟩
theorem dd_Poo_write_5 : Dc mi_Poo_write 5 (.getfield 10) 3 8 := ⟨by decide +kernel, rfl⟩
theorem dd_Poo_write_8 : Dc mi_Poo_write 8 (.invokevirtual 40) 3 11 := ⟨by decide +kernel, rfl⟩
theorem dd_Poo_write_11 : Dc mi_Poo_write 11 (.aload_n 0) 1 12 := ⟨by decide +kernel, rfl⟩
theorem dd_Poo_write_12 : Dc mi_Poo_write 12 (.aload_n 0) 1 13 := ⟨by decide +kernel, rfl⟩
theorem dd_Poo_write_13 : Dc mi_Poo_write 13 (.getfield 10) 3 16 := ⟨by decide +kernel, rfl⟩
theorem dd_Poo_write_16 : Dc mi_Poo_write 16 (.iload_n 1) 1 17 := ⟨by decide +kernel, rfl⟩
theorem dd_Poo_write_17 : Dc mi_Poo_write 17 (.iload_n 2) 1 18 := ⟨by decide +kernel, rfl⟩
theorem dd_Poo_write_18 : Dc mi_Poo_write 18 (.iload_n 3) 1 19 := ⟨by decide +kernel, rfl⟩
theorem dd_Poo_write_19 : Dc mi_Poo_write 19 (.iload 4) 2 21 := ⟨by decide +kernel, rfl⟩
theorem dd_Poo_write_21 : Dc mi_Poo_write 21 (.invokevirtual 62) 3 24 := ⟨by decide +kernel, rfl⟩
theorem dd_Poo_write_24 : Dc mi_Poo_write 24 (.invokevirtual 55) 3 27 := ⟨by decide +kernel, rfl⟩
theorem dd_Poo_write_27 : decode (mbc mi_Poo_write) 27 = .ok (retI (mrt mi_Poo_write), 1) := by decide +kernel
theorem dd_Blk_holds_0 : Dc mi_Blk_holds 0 (.iload_n 1) 1 1 := ⟨by decide +kernel, rfl⟩
theorem dd_Blk_holds_1 : Dc mi_Blk_holds 1 (.aload_n 0) 1 2 := ⟨by decide +kernel, rfl⟩
theorem dd_Blk_holds_2 : Dc mi_Blk_holds 2 (.getfield 9) 3 5 := ⟨by decide +kernel, rfl⟩
theorem dd_Blk_holds_5 : Db mi_Blk_holds 5 (.if_icmp .lt 20) 20 8 25 := ⟨by decide +kernel, rfl, rfl⟩
theorem dd_Blk_holds_8 : Dc mi_Blk_holds 8 (.iload_n 1) 1 9 := ⟨by decide +kernel, rfl⟩
theorem dd_Blk_holds_9 : Dc mi_Blk_holds 9 (.aload_n 0) 1 10 := ⟨by decide +kernel, rfl⟩
theorem dd_Blk_holds_10 : Dc mi_Blk_holds 10 (.getfield 9) 3 13 := ⟨by decide +kernel, rfl⟩
theorem dd_Blk_holds_13 : Dc mi_Blk_holds 13 (.aload_n 0) 1 14 := ⟨by decide +kernel, rfl⟩
theorem dd_Blk_holds_14 : Dc mi_Blk_holds 14 (.invokevirtual 34) 3 17 := ⟨by decide +kernel, rfl⟩
theorem dd_Blk_holds_17 : Dc mi_Blk_holds 17 (.iadd) 1 18 := ⟨by decide +kernel, rfl⟩
theorem dd_Blk_holds_18 : Db mi_Blk_holds 18 (.if_icmp .ge 7) 7 21 25 := ⟨by decide +kernel, rfl, rfl⟩
theorem dd_Blk_holds_21 : Dc mi_Blk_holds 21 (.iconst 1) 1 22 := ⟨by decide +kernel, rfl⟩
theorem dd_Blk_holds_22 : Db mi_Blk_holds 22 (.goto 4) 4 25 26 := ⟨by decide +kernel, rfl, rfl⟩
theorem dd_Blk_holds_25 : Dc mi_Blk_holds 25 (.iconst 0) 1 26 := ⟨by decide +kernel, rfl⟩
theorem dd_Blk_holds_26 : decode (mbc mi_Blk_holds) 26 = .ok (retI (mrt mi_Blk_holds), 1) := by decide +kernel
theorem dd_Blk_hasGuardAt_0 : Dc mi_Blk_hasGuardAt 0 (.aload_n 0) 1 1 := ⟨by decide +kernel, rfl⟩
theorem dd_Blk_hasGuardAt_1 : Dc mi_Blk_hasGuardAt 1 (.invokevirtual 38) 3 4 := ⟨by decide +kernel, rfl⟩
theorem dd_Blk_hasGuardAt_4 : Db mi_Blk_hasGuardAt 4 (.ifCond .eq 23) 23 7 27 := ⟨by decide +kernel, rfl, rfl⟩
theorem dd_Blk_hasGuardAt_7 : Dc mi_Blk_hasGuardAt 7 (.iload_n 1) 1 8 := ⟨by decide +kernel, rfl⟩
theorem dd_Blk_hasGuardAt_8 : Dc mi_Blk_hasGuardAt 8 (.aload_n 0) 1 9 := ⟨by decide +kernel, rfl⟩
theorem dd_Blk_hasGuardAt_9 : Dc mi_Blk_hasGuardAt 9 (.getfield 9) 3 12 := ⟨by decide +kernel, rfl⟩
theorem dd_Blk_hasGuardAt_12 : Db mi_Blk_hasGuardAt 12 (.if_icmp .eq 11) 11 15 23 := ⟨by decide +kernel, rfl, rfl⟩
theorem dd_Blk_hasGuardAt_15 : Dc mi_Blk_hasGuardAt 15 (.iload_n 1) 1 16 := ⟨by decide +kernel, rfl⟩
theorem dd_Blk_hasGuardAt_16 : Dc mi_Blk_hasGuardAt 16 (.aload_n 0) 1 17 := ⟨by decide +kernel, rfl⟩
theorem dd_Blk_hasGuardAt_17 : Dc mi_Blk_hasGuardAt 17 (.invokevirtual 42) 3 20 := ⟨by decide +kernel, rfl⟩
theorem dd_Blk_hasGuardAt_20 : Db mi_Blk_hasGuardAt 20 (.if_icmp .ne 7) 7 23 27 := ⟨by decide +kernel, rfl, rfl⟩
theorem dd_Blk_hasGuardAt_23 : Dc mi_Blk_hasGuardAt 23 (.iconst 1) 1 24 := ⟨by decide +kernel, rfl⟩
theorem dd_Blk_hasGuardAt_24 : Db mi_Blk_hasGuardAt 24 (.goto 4) 4 27 28 := ⟨by decide +kernel, rfl, rfl⟩
theorem dd_Blk_hasGuardAt_27 : Dc mi_Blk_hasGuardAt 27 (.iconst 0) 1 28 := ⟨by decide +kernel, rfl⟩
theorem dd_Blk_hasGuardAt_28 : decode (mbc mi_Blk_hasGuardAt) 28 = .ok (retI (mrt mi_Blk_hasGuardAt), 1) := by decide +kernel
theorem dd_Blk_wasAskedFor_0 : Dc mi_Blk_wasAskedFor 0 (.aload_n 0) 1 1 := ⟨by decide +kernel, rfl⟩
theorem dd_Blk_wasAskedFor_1 : Dc mi_Blk_wasAskedFor 1 (.invokevirtual 38) 3 4 := ⟨by decide +kernel, rfl⟩
theorem dd_Blk_wasAskedFor_4 : Db mi_Blk_wasAskedFor 4 (.ifCond .eq 23) 23 7 27 := ⟨by decide +kernel, rfl, rfl⟩
theorem dd_Blk_wasAskedFor_7 : Dc mi_Blk_wasAskedFor 7 (.iload_n 1) 1 8 := ⟨by decide +kernel, rfl⟩
theorem dd_Blk_wasAskedFor_8 : Dc mi_Blk_wasAskedFor 8 (.aload_n 0) 1 9 := ⟨by decide +kernel, rfl⟩
theorem dd_Blk_wasAskedFor_9 : Dc mi_Blk_wasAskedFor 9 (.getfield 9) 3 12 := ⟨by decide +kernel, rfl⟩
theorem dd_Blk_wasAskedFor_12 : Db mi_Blk_wasAskedFor 12 (.if_icmp .le 15) 15 15 27 := ⟨by decide +kernel, rfl, rfl⟩
theorem dd_Blk_wasAskedFor_15 : Dc mi_Blk_wasAskedFor 15 (.iload_n 1) 1 16 := ⟨by decide +kernel, rfl⟩
theorem dd_Blk_wasAskedFor_16 : Dc mi_Blk_wasAskedFor 16 (.aload_n 0) 1 17 := ⟨by decide +kernel, rfl⟩
theorem dd_Blk_wasAskedFor_17 : Dc mi_Blk_wasAskedFor 17 (.invokevirtual 42) 3 20 := ⟨by decide +kernel, rfl⟩
theorem dd_Blk_wasAskedFor_20 : Db mi_Blk_wasAskedFor 20 (.if_icmp .ge 7) 7 23 27 := ⟨by decide +kernel, rfl, rfl⟩
theorem dd_Blk_wasAskedFor_23 : Dc mi_Blk_wasAskedFor 23 (.iconst 1) 1 24 := ⟨by decide +kernel, rfl⟩
theorem dd_Blk_wasAskedFor_24 : Db mi_Blk_wasAskedFor 24 (.goto 4) 4 27 28 := ⟨by decide +kernel, rfl, rfl⟩
theorem dd_Blk_wasAskedFor_27 : Dc mi_Blk_wasAskedFor 27 (.iconst 0) 1 28 := ⟨by decide +kernel, rfl⟩
theorem dd_Blk_wasAskedFor_28 : decode (mbc mi_Blk_wasAskedFor) 28 = .ok (retI (mrt mi_Blk_wasAskedFor), 1) := by decide +kernel
theorem dd_Poo_touch_0 : Dc mi_Poo_touch 0 (.aload_n 0) 1 1 := ⟨by decide +kernel, rfl⟩
theorem dd_Poo_touch_1 : Dc mi_Poo_touch 1 (.getfield 16) 3 4 := ⟨by decide +kernel, rfl⟩
theorem dd_Poo_touch_4 : Dc mi_Poo_touch 4 (.aload_n 0) 1 5 := ⟨by decide +kernel, rfl⟩
theorem dd_Poo_touch_5 : Dc mi_Poo_touch 5 (.getfield 10) 3 8 := ⟨by decide +kernel, rfl⟩
theorem dd_Poo_touch_8 : Dc mi_Poo_touch 8 (.invokevirtual 40) 3 11 := ⟨by decide +kernel, rfl⟩
theorem dd_Poo_touch_11 : Dc mi_Poo_touch 11 (.aload_n 0) 1 12 := ⟨by decide +kernel, rfl⟩
theorem dd_Poo_touch_12 : Dc mi_Poo_touch 12 (.aload_n 0) 1 13 := ⟨by decide +kernel, rfl⟩
theorem dd_Poo_touch_13 : Dc mi_Poo_touch 13 (.getfield 10) 3 16 := ⟨by decide +kernel, rfl⟩
theorem dd_Poo_touch_16 : Dc mi_Poo_touch 16 (.iload_n 1) 1 17 := ⟨by decide +kernel, rfl⟩
theorem dd_Poo_touch_17 : Dc mi_Poo_touch 17 (.invokevirtual 66) 3 20 := ⟨by decide +kernel, rfl⟩
theorem dd_Poo_touch_20 : Dc mi_Poo_touch 20 (.invokevirtual 55) 3 23 := ⟨by decide +kernel, rfl⟩
theorem dd_Poo_touch_23 : decode (mbc mi_Poo_touch) 23 = .ok (retI (mrt mi_Poo_touch), 1) := by decide +kernel
theorem dd_Poo_live_0 : Dc mi_Poo_live 0 (.aload_n 0) 1 1 := ⟨by decide +kernel, rfl⟩
theorem dd_Poo_live_1 : Dc mi_Poo_live 1 (.getfield 16) 3 4 := ⟨by decide +kernel, rfl⟩
theorem dd_Poo_live_4 : Dc mi_Poo_live 4 (.aload_n 0) 1 5 := ⟨by decide +kernel, rfl⟩
theorem dd_Poo_live_5 : Dc mi_Poo_live 5 (.getfield 10) 3 8 := ⟨by decide +kernel, rfl⟩
theorem dd_Poo_live_8 : Dc mi_Poo_live 8 (.invokevirtual 40) 3 11 := ⟨by decide +kernel, rfl⟩
theorem dd_Poo_live_11 : Dc mi_Poo_live 11 (.aload_n 0) 1 12 := ⟨by decide +kernel, rfl⟩
theorem dd_Poo_live_12 : Dc mi_Poo_live 12 (.aload_n 0) 1 13 := ⟨by decide +kernel, rfl⟩
theorem dd_Poo_live_13 : Dc mi_Poo_live 13 (.getfield 10) 3 16 := ⟨by decide +kernel, rfl⟩
theorem dd_Poo_live_16 : Dc mi_Poo_live 16 (.iload_n 1) 1 17 := ⟨by decide +kernel, rfl⟩
theorem dd_Poo_live_17 : Dc mi_Poo_live 17 (.iload_n 2) 1 18 := ⟨by decide +kernel, rfl⟩
theorem dd_Poo_live_18 : Dc mi_Poo_live 18 (.invokevirtual 69) 3 21 := ⟨by decide +kernel, rfl⟩
theorem dd_Poo_live_21 : Dc mi_Poo_live 21 (.invokevirtual 55) 3 24 := ⟨by decide +kernel, rfl⟩
theorem dd_Poo_live_24 : decode (mbc mi_Poo_live) 24 = .ok (retI (mrt mi_Poo_live), 1) := by decide +kernel
theorem dd_Poo_setLimit_0 : Dc mi_Poo_setLimit 0 (.aload_n 0) 1 1 := ⟨by decide +kernel, rfl⟩
theorem dd_Poo_setLimit_1 : Dc mi_Poo_setLimit 1 (.getfield 16) 3 4 := ⟨by decide +kernel, rfl⟩
theorem dd_Poo_setLimit_4 : Dc mi_Poo_setLimit 4 (.aload_n 0) 1 5 := ⟨by decide +kernel, rfl⟩
theorem dd_Poo_setLimit_5 : Dc mi_Poo_setLimit 5 (.getfield 10) 3 8 := ⟨by decide +kernel, rfl⟩
theorem dd_Poo_setLimit_8 : Dc mi_Poo_setLimit 8 (.invokevirtual 40) 3 11 := ⟨by decide +kernel, rfl⟩
theorem dd_Poo_setLimit_11 : Dc mi_Poo_setLimit 11 (.aload_n 0) 1 12 := ⟨by decide +kernel, rfl⟩
theorem dd_Poo_setLimit_12 : Dc mi_Poo_setLimit 12 (.aload_n 0) 1 13 := ⟨by decide +kernel, rfl⟩
theorem dd_Poo_setLimit_13 : Dc mi_Poo_setLimit 13 (.getfield 10) 3 16 := ⟨by decide +kernel, rfl⟩
theorem dd_Poo_setLimit_16 : Dc mi_Poo_setLimit 16 (.iload_n 1) 1 17 := ⟨by decide +kernel, rfl⟩
theorem dd_Poo_setLimit_17 : Dc mi_Poo_setLimit 17 (.iload_n 2) 1 18 := ⟨by decide +kernel, rfl⟩
theorem dd_Poo_setLimit_18 : Dc mi_Poo_setLimit 18 (.invokevirtual 73) 3 21 := ⟨by decide +kernel, rfl⟩
theorem dd_Poo_setLimit_21 : Dc mi_Poo_setLimit 21 (.invokevirtual 55) 3 24 := ⟨by decide +kernel, rfl⟩
theorem dd_Poo_setLimit_24 : decode (mbc mi_Poo_setLimit) 24 = .ok (retI (mrt mi_Poo_setLimit), 1) := by decide +kernel
theorem dd_Poo_setPatience_0 : Dc mi_Poo_setPatience 0 (.aload_n 0) 1 1 := ⟨by decide +kernel, rfl⟩
theorem dd_Poo_setPatience_1 : Dc mi_Poo_setPatience 1 (.getfield 16) 3 4 := ⟨by decide +kernel, rfl⟩
theorem dd_Poo_setPatience_4 : Dc mi_Poo_setPatience 4 (.aload_n 0) 1 5 := ⟨by decide +kernel, rfl⟩
theorem dd_Poo_setPatience_5 : Dc mi_Poo_setPatience 5 (.getfield 10) 3 8 := ⟨by decide +kernel, rfl⟩
theorem dd_Poo_setPatience_8 : Dc mi_Poo_setPatience 8 (.invokevirtual 40) 3 11 := ⟨by decide +kernel, rfl⟩
theorem dd_Poo_setPatience_11 : Dc mi_Poo_setPatience 11 (.aload_n 0) 1 12 := ⟨by decide +kernel, rfl⟩
theorem dd_Poo_setPatience_12 : Dc mi_Poo_setPatience 12 (.aload_n 0) 1 13 := ⟨by decide +kernel, rfl⟩
theorem dd_Poo_setPatience_13 : Dc mi_Poo_setPatience 13 (.getfield 10) 3 16 := ⟨by decide +kernel, rfl⟩
theorem dd_Poo_setPatience_16 : Dc mi_Poo_setPatience 16 (.iload_n 1) 1 17 := ⟨by decide +kernel, rfl⟩
theorem dd_Poo_setPatience_17 : Dc mi_Poo_setPatience 17 (.invokevirtual 76) 3 20 := ⟨by decide +kernel, rfl⟩
theorem dd_Poo_setPatience_20 : Dc mi_Poo_setPatience 20 (.invokevirtual 55) 3 23 := ⟨by decide +kernel, rfl⟩
theorem dd_Poo_setPatience_23 : decode (mbc mi_Poo_setPatience) 23 = .ok (retI (mrt mi_Poo_setPatience), 1) := by decide +kernel
theorem dd_Poo_pass_0 : Dc mi_Poo_pass 0 (.aload_n 0) 1 1 := ⟨by decide +kernel, rfl⟩
theorem dd_Poo_pass_1 : Dc mi_Poo_pass 1 (.getfield 16) 3 4 := ⟨by decide +kernel, rfl⟩
theorem dd_Poo_pass_4 : Dc mi_Poo_pass 4 (.aload_n 0) 1 5 := ⟨by decide +kernel, rfl⟩
theorem dd_Poo_pass_5 : Dc mi_Poo_pass 5 (.getfield 10) 3 8 := ⟨by decide +kernel, rfl⟩
theorem dd_Poo_pass_8 : Dc mi_Poo_pass 8 (.invokevirtual 40) 3 11 := ⟨by decide +kernel, rfl⟩
theorem dd_Poo_pass_11 : Dc mi_Poo_pass 11 (.aload_n 0) 1 12 := ⟨by decide +kernel, rfl⟩
theorem dd_Poo_pass_12 : Dc mi_Poo_pass 12 (.aload_n 0) 1 13 := ⟨by decide +kernel, rfl⟩
theorem dd_Poo_pass_13 : Dc mi_Poo_pass 13 (.getfield 10) 3 16 := ⟨by decide +kernel, rfl⟩
theorem dd_Poo_pass_16 : Dc mi_Poo_pass 16 (.iload_n 1) 1 17 := ⟨by decide +kernel, rfl⟩
theorem dd_Poo_pass_17 : Dc mi_Poo_pass 17 (.invokevirtual 79) 3 20 := ⟨by decide +kernel, rfl⟩
theorem dd_Poo_pass_20 : Dc mi_Poo_pass 20 (.invokevirtual 55) 3 23 := ⟨by decide +kernel, rfl⟩
theorem dd_Poo_pass_23 : decode (mbc mi_Poo_pass) 23 = .ok (retI (mrt mi_Poo_pass), 1) := by decide +kernel
theorem dd_Poo_sweep_0 : Dc mi_Poo_sweep 0 (.aload_n 0) 1 1 := ⟨by decide +kernel, rfl⟩
theorem dd_Poo_sweep_1 : Dc mi_Poo_sweep 1 (.getfield 16) 3 4 := ⟨by decide +kernel, rfl⟩
theorem dd_Poo_sweep_4 : Dc mi_Poo_sweep 4 (.aload_n 0) 1 5 := ⟨by decide +kernel, rfl⟩
theorem dd_Poo_sweep_5 : Dc mi_Poo_sweep 5 (.getfield 10) 3 8 := ⟨by decide +kernel, rfl⟩
theorem dd_Poo_sweep_8 : Dc mi_Poo_sweep 8 (.invokevirtual 40) 3 11 := ⟨by decide +kernel, rfl⟩
theorem dd_Poo_sweep_11 : Dc mi_Poo_sweep 11 (.aload_n 0) 1 12 := ⟨by decide +kernel, rfl⟩
theorem dd_Poo_sweep_12 : Dc mi_Poo_sweep 12 (.aload_n 0) 1 13 := ⟨by decide +kernel, rfl⟩
theorem dd_Poo_sweep_13 : Dc mi_Poo_sweep 13 (.getfield 10) 3 16 := ⟨by decide +kernel, rfl⟩
theorem dd_Poo_sweep_16 : Dc mi_Poo_sweep 16 (.invokevirtual 82) 3 19 := ⟨by decide +kernel, rfl⟩
theorem dd_Poo_sweep_19 : Dc mi_Poo_sweep 19 (.invokevirtual 55) 3 22 := ⟨by decide +kernel, rfl⟩
theorem dd_Poo_sweep_22 : decode (mbc mi_Poo_sweep) 22 = .ok (retI (mrt mi_Poo_sweep), 1) := by decide +kernel
theorem dd_Poo_type_0 : Dc mi_Poo_type 0 (.aload_n 0) 1 1 := ⟨by decide +kernel, rfl⟩
theorem dd_Poo_type_1 : Dc mi_Poo_type 1 (.getfield 32) 3 4 := ⟨by decide +kernel, rfl⟩
theorem dd_Poo_type_4 : Dc mi_Poo_type 4 (.iload_n 1) 1 5 := ⟨by decide +kernel, rfl⟩
theorem dd_Poo_type_5 : Dc mi_Poo_type 5 (.invokevirtual 86) 3 8 := ⟨by decide +kernel, rfl⟩
theorem dd_Poo_type_8 : decode (mbc mi_Poo_type) 8 = .ok (retI (mrt mi_Poo_type), 1) := by decide +kernel
theorem dd_Txt_append_0 : Dc mi_Txt_append 0 (.aload_n 0) 1 1 := ⟨by decide +kernel, rfl⟩
theorem dd_Txt_append_1 : Dc mi_Txt_append 1 (.getfield 22) 3 4 := ⟨by decide +kernel, rfl⟩
theorem dd_Txt_append_4 : Db mi_Txt_append 4 (.ifCond .lt 12) 12 7 16 := ⟨by decide +kernel, rfl, rfl⟩
theorem dd_Txt_append_7 : Dc mi_Txt_append 7 (.aload_n 0) 1 8 := ⟨by decide +kernel, rfl⟩
theorem dd_Txt_append_8 : Dc mi_Txt_append 8 (.getfield 22) 3 11 := ⟨by decide +kernel, rfl⟩
theorem dd_Txt_append_11 : Dc mi_Txt_append 11 (.bipush 60) 2 13 := ⟨by decide +kernel, rfl⟩
theorem dd_Txt_append_13 : Db mi_Txt_append 13 (.if_icmp .lt 6) 6 16 19 := ⟨by decide +kernel, rfl, rfl⟩
theorem dd_Txt_append_16 : Dc mi_Txt_append 16 (.bipush (-3)) 2 18 := ⟨by decide +kernel, rfl⟩
theorem dd_Txt_append_18 : decode (mbc mi_Txt_append) 18 = .ok (retI (mrt mi_Txt_append), 1) := by decide +kernel
theorem dd_Txt_append_19 : Dc mi_Txt_append 19 (.aload_n 0) 1 20 := ⟨by decide +kernel, rfl⟩
theorem dd_Txt_append_20 : Dc mi_Txt_append 20 (.getfield 9) 3 23 := ⟨by decide +kernel, rfl⟩
theorem dd_Txt_append_23 : Dc mi_Txt_append 23 (.aload_n 0) 1 24 := ⟨by decide +kernel, rfl⟩
theorem dd_Txt_append_24 : Dc mi_Txt_append 24 (.getfield 22) 3 27 := ⟨by decide +kernel, rfl⟩
theorem dd_Txt_append_27 : Dc mi_Txt_append 27 (.iload_n 1) 1 28 := ⟨by decide +kernel, rfl⟩
theorem dd_Txt_append_28 : Dc mi_Txt_append 28 (.castore) 1 29 := ⟨by decide +kernel, rfl⟩
theorem dd_Txt_append_29 : Dc mi_Txt_append 29 (.aload_n 0) 1 30 := ⟨by decide +kernel, rfl⟩
theorem dd_Txt_append_30 : Dc mi_Txt_append 30 (.dup) 1 31 := ⟨by decide +kernel, rfl⟩
theorem dd_Txt_append_31 : Dc mi_Txt_append 31 (.getfield 22) 3 34 := ⟨by decide +kernel, rfl⟩
theorem dd_Txt_append_34 : Dc mi_Txt_append 34 (.iconst 1) 1 35 := ⟨by decide +kernel, rfl⟩
theorem dd_Txt_append_35 : Dc mi_Txt_append 35 (.iadd) 1 36 := ⟨by decide +kernel, rfl⟩
theorem dd_Txt_append_36 : Dc mi_Txt_append 36 (.putfield 22) 3 39 := ⟨by decide +kernel, rfl⟩
theorem dd_Txt_append_39 : Dc mi_Txt_append 39 (.aload_n 0) 1 40 := ⟨by decide +kernel, rfl⟩
theorem dd_Txt_append_40 : Dc mi_Txt_append 40 (.getfield 22) 3 43 := ⟨by decide +kernel, rfl⟩
theorem dd_Txt_append_43 : decode (mbc mi_Txt_append) 43 = .ok (retI (mrt mi_Txt_append), 1) := by decide +kernel
theorem dd_Poo_clearText_0 : Dc mi_Poo_clearText 0 (.aload_n 0) 1 1 := ⟨by decide +kernel, rfl⟩
theorem dd_Poo_clearText_1 : Dc mi_Poo_clearText 1 (.getfield 32) 3 4 := ⟨by decide +kernel, rfl⟩
theorem dd_Poo_clearText_4 : Dc mi_Poo_clearText 4 (.invokevirtual 90) 3 7 := ⟨by decide +kernel, rfl⟩
theorem dd_Poo_clearText_7 : decode (mbc mi_Poo_clearText) 7 = .ok (retI (mrt mi_Poo_clearText), 1) := by decide +kernel
theorem dd_Txt_drop_0 : Dc mi_Txt_drop 0 (.aload_n 0) 1 1 := ⟨by decide +kernel, rfl⟩
theorem dd_Txt_drop_1 : Dc mi_Txt_drop 1 (.getfield 22) 3 4 := ⟨by decide +kernel, rfl⟩
theorem dd_Txt_drop_4 : Dc mi_Txt_drop 4 (.istore_n 1) 1 5 := ⟨by decide +kernel, rfl⟩
theorem dd_Txt_drop_5 : Dc mi_Txt_drop 5 (.aload_n 0) 1 6 := ⟨by decide +kernel, rfl⟩
theorem dd_Txt_drop_6 : Dc mi_Txt_drop 6 (.iconst 0) 1 7 := ⟨by decide +kernel, rfl⟩
theorem dd_Txt_drop_7 : Dc mi_Txt_drop 7 (.putfield 22) 3 10 := ⟨by decide +kernel, rfl⟩
theorem dd_Txt_drop_10 : Dc mi_Txt_drop 10 (.iload_n 1) 1 11 := ⟨by decide +kernel, rfl⟩
theorem dd_Txt_drop_11 : decode (mbc mi_Txt_drop) 11 = .ok (retI (mrt mi_Txt_drop), 1) := by decide +kernel
theorem dd_Poo_perform_0 : Dc mi_Poo_perform 0 (.aload_n 0) 1 1 := ⟨by decide +kernel, rfl⟩
theorem dd_Poo_perform_1 : Dc mi_Poo_perform 1 (.getfield 32) 3 4 := ⟨by decide +kernel, rfl⟩
theorem dd_Poo_perform_4 : Dc mi_Poo_perform 4 (.invokevirtual 93) 3 7 := ⟨by decide +kernel, rfl⟩
theorem dd_Poo_perform_7 : Dc mi_Poo_perform 7 (.istore_n 1) 1 8 := ⟨by decide +kernel, rfl⟩
theorem dd_Poo_perform_8 : Dc mi_Poo_perform 8 (.iload_n 1) 1 9 := ⟨by decide +kernel, rfl⟩
theorem dd_Poo_perform_9 : Dc mi_Poo_perform 9 (.iconst (-1)) 1 10 := ⟨by decide +kernel, rfl⟩
theorem dd_Poo_perform_10 : Db mi_Poo_perform 10 (.if_icmp .eq 8) 8 13 18 := ⟨by decide +kernel, rfl, rfl⟩
theorem dd_Poo_perform_13 : Dc mi_Poo_perform 13 (.bipush (-100)) 2 15 := ⟨by decide +kernel, rfl⟩
theorem dd_Poo_perform_15 : Dc mi_Poo_perform 15 (.iload_n 1) 1 16 := ⟨by decide +kernel, rfl⟩
theorem dd_Poo_perform_16 : Dc mi_Poo_perform 16 (.isub) 1 17 := ⟨by decide +kernel, rfl⟩
theorem dd_Poo_perform_17 : decode (mbc mi_Poo_perform) 17 = .ok (retI (mrt mi_Poo_perform), 1) := by decide +kernel
theorem dd_Poo_perform_18 : Dc mi_Poo_perform 18 (.aload_n 0) 1 19 := ⟨by decide +kernel, rfl⟩
theorem dd_Poo_perform_19 : Dc mi_Poo_perform 19 (.getfield 16) 3 22 := ⟨by decide +kernel, rfl⟩
theorem dd_Poo_perform_22 : Dc mi_Poo_perform 22 (.aload_n 0) 1 23 := ⟨by decide +kernel, rfl⟩
theorem dd_Poo_perform_23 : Dc mi_Poo_perform 23 (.getfield 10) 3 26 := ⟨by decide +kernel, rfl⟩
theorem dd_Poo_perform_26 : Dc mi_Poo_perform 26 (.invokevirtual 40) 3 29 := ⟨by decide +kernel, rfl⟩
theorem dd_Poo_perform_29 : Dc mi_Poo_perform 29 (.aload_n 0) 1 30 := ⟨by decide +kernel, rfl⟩
theorem dd_Poo_perform_30 : Dc mi_Poo_perform 30 (.getfield 32) 3 33 := ⟨by decide +kernel, rfl⟩
theorem dd_Poo_perform_33 : Dc mi_Poo_perform 33 (.invokevirtual 96) 3 36 := ⟨by decide +kernel, rfl⟩
theorem dd_Poo_perform_36 : Dc mi_Poo_perform 36 (.istore_n 2) 1 37 := ⟨by decide +kernel, rfl⟩
theorem dd_Poo_perform_37 : Dc mi_Poo_perform 37 (.iconst 0) 1 38 := ⟨by decide +kernel, rfl⟩
theorem dd_Poo_perform_38 : Dc mi_Poo_perform 38 (.istore_n 3) 1 39 := ⟨by decide +kernel, rfl⟩
theorem dd_Poo_perform_39 : Dc mi_Poo_perform 39 (.iload_n 3) 1 40 := ⟨by decide +kernel, rfl⟩
theorem dd_Poo_perform_40 : Dc mi_Poo_perform 40 (.iload_n 2) 1 41 := ⟨by decide +kernel, rfl⟩
theorem dd_Poo_perform_41 : Db mi_Poo_perform 41 (.if_icmp .ge 52) 52 44 93 := ⟨by decide +kernel, rfl, rfl⟩
theorem dd_Poo_perform_44 : Dc mi_Poo_perform 44 (.aload_n 0) 1 45 := ⟨by decide +kernel, rfl⟩
theorem dd_Poo_perform_45 : Dc mi_Poo_perform 45 (.aload_n 0) 1 46 := ⟨by decide +kernel, rfl⟩
theorem dd_Poo_perform_46 : Dc mi_Poo_perform 46 (.getfield 32) 3 49 := ⟨by decide +kernel, rfl⟩
theorem dd_Poo_perform_49 : Dc mi_Poo_perform 49 (.iload_n 3) 1 50 := ⟨by decide +kernel, rfl⟩
theorem dd_Poo_perform_50 : Dc mi_Poo_perform 50 (.invokevirtual 99) 3 53 := ⟨by decide +kernel, rfl⟩
theorem dd_Poo_perform_53 : Dc mi_Poo_perform 53 (.invokevirtual 103) 3 56 := ⟨by decide +kernel, rfl⟩
theorem dd_Poo_perform_56 : Dc mi_Poo_perform 56 (.istore 4) 2 58 := ⟨by decide +kernel, rfl⟩
theorem dd_Poo_perform_58 : Dc mi_Poo_perform 58 (.iload 4) 2 60 := ⟨by decide +kernel, rfl⟩
theorem dd_Poo_perform_60 : Dc mi_Poo_perform 60 (.invokestatic 107) 3 63 := ⟨by decide +kernel, rfl⟩
theorem dd_Poo_perform_63 : Db mi_Poo_perform 63 (.ifCond .eq 24) 24 66 87 := ⟨by decide +kernel, rfl, rfl⟩
theorem dd_Poo_perform_66 : Dc mi_Poo_perform 66 (.aload_n 0) 1 67 := ⟨by decide +kernel, rfl⟩
theorem dd_Poo_perform_67 : Dc mi_Poo_perform 67 (.iload_n 3) 1 68 := ⟨by decide +kernel, rfl⟩
theorem dd_Poo_perform_68 : Dc mi_Poo_perform 68 (.iload 4) 2 70 := ⟨by decide +kernel, rfl⟩
theorem dd_Poo_perform_70 : Dc mi_Poo_perform 70 (.invokevirtual 111) 3 73 := ⟨by decide +kernel, rfl⟩
theorem dd_Poo_perform_73 : Dc mi_Poo_perform 73 (.aload_n 0) 1 74 := ⟨by decide +kernel, rfl⟩
theorem dd_Poo_perform_74 : Dc mi_Poo_perform 74 (.getfield 10) 3 77 := ⟨by decide +kernel, rfl⟩
theorem dd_Poo_perform_77 : Dc mi_Poo_perform 77 (.aload_n 0) 1 78 := ⟨by decide +kernel, rfl⟩
theorem dd_Poo_perform_78 : Dc mi_Poo_perform 78 (.getfield 16) 3 81 := ⟨by decide +kernel, rfl⟩
theorem dd_Poo_perform_81 : Dc mi_Poo_perform 81 (.invokevirtual 40) 3 84 := ⟨by decide +kernel, rfl⟩
theorem dd_Poo_perform_84 : Dc mi_Poo_perform 84 (.bipush (-4)) 2 86 := ⟨by decide +kernel, rfl⟩
theorem dd_Poo_perform_86 : decode (mbc mi_Poo_perform) 86 = .ok (retI (mrt mi_Poo_perform), 1) := by decide +kernel
theorem dd_Poo_perform_87 : Dc mi_Poo_perform 87 (.iinc 3 1) 3 90 := ⟨by decide +kernel, rfl⟩
theorem dd_Poo_perform_90 : Db mi_Poo_perform 90 (.goto (-51)) (-51) 93 39 := ⟨by decide +kernel, rfl, rfl⟩
theorem dd_Poo_perform_93 : Dc mi_Poo_perform 93 (.aload_n 0) 1 94 := ⟨by decide +kernel, rfl⟩
theorem dd_Poo_perform_94 : Dc mi_Poo_perform 94 (.iload_n 2) 1 95 := ⟨by decide +kernel, rfl⟩
theorem dd_Poo_perform_95 : Dc mi_Poo_perform 95 (.invokevirtual 55) 3 98 := ⟨by decide +kernel, rfl⟩
theorem dd_Poo_perform_98 : decode (mbc mi_Poo_perform) 98 = .ok (retI (mrt mi_Poo_perform), 1) := by decide +kernel
theorem dd_Txt_read_0 : Dc mi_Txt_read 0 (.aload_n 0) 1 1 := ⟨by decide +kernel, rfl⟩
theorem dd_Txt_read_1 : Dc mi_Txt_read 1 (.iconst 0) 1 2 := ⟨by decide +kernel, rfl⟩
theorem dd_Txt_read_2 : Dc mi_Txt_read 2 (.putfield 29) 3 5 := ⟨by decide +kernel, rfl⟩
theorem dd_Txt_read_5 : Dc mi_Txt_read 5 (.aload_n 0) 1 6 := ⟨by decide +kernel, rfl⟩
theorem dd_Txt_read_6 : Dc mi_Txt_read 6 (.iconst 0) 1 7 := ⟨by decide +kernel, rfl⟩
theorem dd_Txt_read_7 : Dc mi_Txt_read 7 (.putfield 32) 3 10 := ⟨by decide +kernel, rfl⟩
theorem dd_Txt_read_10 : Dc mi_Txt_read 10 (.aload_n 0) 1 11 := ⟨by decide +kernel, rfl⟩
theorem dd_Txt_read_11 : Dc mi_Txt_read 11 (.iconst 0) 1 12 := ⟨by decide +kernel, rfl⟩
theorem dd_Txt_read_12 : Dc mi_Txt_read 12 (.putfield 26) 3 15 := ⟨by decide +kernel, rfl⟩
theorem dd_Txt_read_15 : Dc mi_Txt_read 15 (.iconst 0) 1 16 := ⟨by decide +kernel, rfl⟩
theorem dd_Txt_read_16 : Dc mi_Txt_read 16 (.istore_n 1) 1 17 := ⟨by decide +kernel, rfl⟩
theorem dd_Txt_read_17 : Dc mi_Txt_read 17 (.iload_n 1) 1 18 := ⟨by decide +kernel, rfl⟩
theorem dd_Txt_read_18 : Dc mi_Txt_read 18 (.bipush 30) 2 20 := ⟨by decide +kernel, rfl⟩
theorem dd_Txt_read_20 : Db mi_Txt_read 20 (.if_icmp .ge 72) 72 23 92 := ⟨by decide +kernel, rfl, rfl⟩
theorem dd_Txt_read_23 : Dc mi_Txt_read 23 (.aload_n 0) 1 24 := ⟨by decide +kernel, rfl⟩
theorem dd_Txt_read_24 : Dc mi_Txt_read 24 (.aload_n 0) 1 25 := ⟨by decide +kernel, rfl⟩
theorem dd_Txt_read_25 : Dc mi_Txt_read 25 (.getfield 17) 3 28 := ⟨by decide +kernel, rfl⟩
theorem dd_Txt_read_28 : Dc mi_Txt_read 28 (.iload_n 1) 1 29 := ⟨by decide +kernel, rfl⟩
theorem dd_Txt_read_29 : Dc mi_Txt_read 29 (.aaload) 1 30 := ⟨by decide +kernel, rfl⟩
theorem dd_Txt_read_30 : Dc mi_Txt_read 30 (.invokevirtual 36) 3 33 := ⟨by decide +kernel, rfl⟩
theorem dd_Txt_read_33 : Dc mi_Txt_read 33 (.aload_n 0) 1 34 := ⟨by decide +kernel, rfl⟩
theorem dd_Txt_read_34 : Dc mi_Txt_read 34 (.getfield 32) 3 37 := ⟨by decide +kernel, rfl⟩
theorem dd_Txt_read_37 : Db mi_Txt_read 37 (.ifCond .eq 8) 8 40 45 := ⟨by decide +kernel, rfl, rfl⟩
theorem dd_Txt_read_40 : Dc mi_Txt_read 40 (.aload_n 0) 1 41 := ⟨by decide +kernel, rfl⟩
theorem dd_Txt_read_41 : Dc mi_Txt_read 41 (.getfield 29) 3 44 := ⟨by decide +kernel, rfl⟩
theorem dd_Txt_read_44 : decode (mbc mi_Txt_read) 44 = .ok (retI (mrt mi_Txt_read), 1) := by decide +kernel
theorem dd_Txt_read_45 : Dc mi_Txt_read 45 (.aload_n 0) 1 46 := ⟨by decide +kernel, rfl⟩
theorem dd_Txt_read_46 : Dc mi_Txt_read 46 (.dup) 1 47 := ⟨by decide +kernel, rfl⟩
theorem dd_Txt_read_47 : Dc mi_Txt_read 47 (.getfield 26) 3 50 := ⟨by decide +kernel, rfl⟩
theorem dd_Txt_read_50 : Dc mi_Txt_read 50 (.iconst 1) 1 51 := ⟨by decide +kernel, rfl⟩
theorem dd_Txt_read_51 : Dc mi_Txt_read 51 (.iadd) 1 52 := ⟨by decide +kernel, rfl⟩
theorem dd_Txt_read_52 : Dc mi_Txt_read 52 (.putfield 26) 3 55 := ⟨by decide +kernel, rfl⟩
theorem dd_Txt_read_55 : Dc mi_Txt_read 55 (.aload_n 0) 1 56 := ⟨by decide +kernel, rfl⟩
theorem dd_Txt_read_56 : Dc mi_Txt_read 56 (.getfield 29) 3 59 := ⟨by decide +kernel, rfl⟩
theorem dd_Txt_read_59 : Dc mi_Txt_read 59 (.aload_n 0) 1 60 := ⟨by decide +kernel, rfl⟩
theorem dd_Txt_read_60 : Dc mi_Txt_read 60 (.getfield 22) 3 63 := ⟨by decide +kernel, rfl⟩
theorem dd_Txt_read_63 : Db mi_Txt_read 63 (.if_icmp .ne 5) 5 66 68 := ⟨by decide +kernel, rfl, rfl⟩
theorem dd_Txt_read_66 : Dc mi_Txt_read 66 (.iconst (-1)) 1 67 := ⟨by decide +kernel, rfl⟩
theorem dd_Txt_read_67 : decode (mbc mi_Txt_read) 67 = .ok (retI (mrt mi_Txt_read), 1) := by decide +kernel
theorem dd_Txt_read_68 : Dc mi_Txt_read 68 (.aload_n 0) 1 69 := ⟨by decide +kernel, rfl⟩
theorem dd_Txt_read_69 : Dc mi_Txt_read 69 (.bipush 44) 2 71 := ⟨by decide +kernel, rfl⟩
theorem dd_Txt_read_71 : Dc mi_Txt_read 71 (.invokevirtual 40) 3 74 := ⟨by decide +kernel, rfl⟩
theorem dd_Txt_read_74 : Dc mi_Txt_read 74 (.aload_n 0) 1 75 := ⟨by decide +kernel, rfl⟩
theorem dd_Txt_read_75 : Dc mi_Txt_read 75 (.getfield 32) 3 78 := ⟨by decide +kernel, rfl⟩
theorem dd_Txt_read_78 : Db mi_Txt_read 78 (.ifCond .eq 8) 8 81 86 := ⟨by decide +kernel, rfl, rfl⟩
theorem dd_Txt_read_81 : Dc mi_Txt_read 81 (.aload_n 0) 1 82 := ⟨by decide +kernel, rfl⟩
theorem dd_Txt_read_82 : Dc mi_Txt_read 82 (.getfield 29) 3 85 := ⟨by decide +kernel, rfl⟩
theorem dd_Txt_read_85 : decode (mbc mi_Txt_read) 85 = .ok (retI (mrt mi_Txt_read), 1) := by decide +kernel
theorem dd_Txt_read_86 : Dc mi_Txt_read 86 (.iinc 1 1) 3 89 := ⟨by decide +kernel, rfl⟩
theorem dd_Txt_read_89 : Db mi_Txt_read 89 (.goto (-72)) (-72) 92 17 := ⟨by decide +kernel, rfl, rfl⟩
theorem dd_Txt_read_92 : Dc mi_Txt_read 92 (.aload_n 0) 1 93 := ⟨by decide +kernel, rfl⟩
theorem dd_Txt_read_93 : Dc mi_Txt_read 93 (.getfield 29) 3 96 := ⟨by decide +kernel, rfl⟩
theorem dd_Txt_read_96 : decode (mbc mi_Txt_read) 96 = .ok (retI (mrt mi_Txt_read), 1) := by decide +kernel
theorem dd_Txt_readCommand_0 : Dc mi_Txt_readCommand 0 (.aload_n 1) 1 1 := ⟨by decide +kernel, rfl⟩
theorem dd_Txt_readCommand_1 : Dc mi_Txt_readCommand 1 (.aload_n 0) 1 2 := ⟨by decide +kernel, rfl⟩
theorem dd_Txt_readCommand_2 : Dc mi_Txt_readCommand 2 (.invokevirtual 44) 3 5 := ⟨by decide +kernel, rfl⟩
theorem dd_Txt_readCommand_5 : Dc mi_Txt_readCommand 5 (.putfield 48) 3 8 := ⟨by decide +kernel, rfl⟩
theorem dd_Txt_readCommand_8 : Dc mi_Txt_readCommand 8 (.aload_n 1) 1 9 := ⟨by decide +kernel, rfl⟩
theorem dd_Txt_readCommand_9 : Dc mi_Txt_readCommand 9 (.getfield 48) 3 12 := ⟨by decide +kernel, rfl⟩
theorem dd_Txt_readCommand_12 : decode (mbc mi_Txt_readCommand) 12 = .ok (.lookupswitch 136 #[(97, 52), (101, 100), (102, 63), (115, 123), (116, 75)], 52) := by decide +kernel
theorem dd_Txt_readCommand_64 : Dc mi_Txt_readCommand 64 (.aload_n 0) 1 65 := ⟨by decide +kernel, rfl⟩
theorem dd_Txt_readCommand_65 : Dc mi_Txt_readCommand 65 (.aload_n 1) 1 66 := ⟨by decide +kernel, rfl⟩
theorem dd_Txt_readCommand_66 : Dc mi_Txt_readCommand 66 (.iconst 1) 1 67 := ⟨by decide +kernel, rfl⟩
theorem dd_Txt_readCommand_67 : Dc mi_Txt_readCommand 67 (.bipush 14) 2 69 := ⟨by decide +kernel, rfl⟩
theorem dd_Txt_readCommand_69 : Dc mi_Txt_readCommand 69 (.invokevirtual 51) 3 72 := ⟨by decide +kernel, rfl⟩
theorem dd_Txt_readCommand_72 : Db mi_Txt_readCommand 72 (.goto 81) 81 75 153 := ⟨by decide +kernel, rfl, rfl⟩
theorem dd_Txt_readCommand_75 : Dc mi_Txt_readCommand 75 (.aload_n 0) 1 76 := ⟨by decide +kernel, rfl⟩
theorem dd_Txt_readCommand_76 : Dc mi_Txt_readCommand 76 (.aload_n 1) 1 77 := ⟨by decide +kernel, rfl⟩
theorem dd_Txt_readCommand_77 : Dc mi_Txt_readCommand 77 (.iconst 0) 1 78 := ⟨by decide +kernel, rfl⟩
theorem dd_Txt_readCommand_78 : Dc mi_Txt_readCommand 78 (.sipush 299) 3 81 := ⟨by decide +kernel, rfl⟩
theorem dd_Txt_readCommand_81 : Dc mi_Txt_readCommand 81 (.invokevirtual 51) 3 84 := ⟨by decide +kernel, rfl⟩
theorem dd_Txt_readCommand_84 : Db mi_Txt_readCommand 84 (.goto 69) 69 87 153 := ⟨by decide +kernel, rfl, rfl⟩
theorem dd_Txt_readCommand_87 : Dc mi_Txt_readCommand 87 (.aload_n 0) 1 88 := ⟨by decide +kernel, rfl⟩
theorem dd_Txt_readCommand_88 : Dc mi_Txt_readCommand 88 (.dup) 1 89 := ⟨by decide +kernel, rfl⟩
theorem dd_Txt_readCommand_89 : Dc mi_Txt_readCommand 89 (.getfield 29) 3 92 := ⟨by decide +kernel, rfl⟩
theorem dd_Txt_readCommand_92 : Dc mi_Txt_readCommand 92 (.iconst 1) 1 93 := ⟨by decide +kernel, rfl⟩
theorem dd_Txt_readCommand_93 : Dc mi_Txt_readCommand 93 (.iadd) 1 94 := ⟨by decide +kernel, rfl⟩
theorem dd_Txt_readCommand_94 : Dc mi_Txt_readCommand 94 (.putfield 29) 3 97 := ⟨by decide +kernel, rfl⟩
theorem dd_Txt_readCommand_97 : Dc mi_Txt_readCommand 97 (.aload_n 1) 1 98 := ⟨by decide +kernel, rfl⟩
theorem dd_Txt_readCommand_98 : Dc mi_Txt_readCommand 98 (.aload_n 0) 1 99 := ⟨by decide +kernel, rfl⟩
theorem dd_Txt_readCommand_99 : Dc mi_Txt_readCommand 99 (.iconst 1) 1 100 := ⟨by decide +kernel, rfl⟩
theorem dd_Txt_readCommand_100 : Dc mi_Txt_readCommand 100 (.sipush 500) 3 103 := ⟨by decide +kernel, rfl⟩
theorem dd_Txt_readCommand_103 : Dc mi_Txt_readCommand 103 (.invokevirtual 55) 3 106 := ⟨by decide +kernel, rfl⟩
theorem dd_Txt_readCommand_106 : Dc mi_Txt_readCommand 106 (.putfield 59) 3 109 := ⟨by decide +kernel, rfl⟩
theorem dd_Txt_readCommand_109 : Db mi_Txt_readCommand 109 (.goto 44) 44 112 153 := ⟨by decide +kernel, rfl, rfl⟩
theorem dd_Txt_readCommand_112 : Dc mi_Txt_readCommand 112 (.aload_n 0) 1 113 := ⟨by decide +kernel, rfl⟩
theorem dd_Txt_readCommand_113 : Dc mi_Txt_readCommand 113 (.dup) 1 114 := ⟨by decide +kernel, rfl⟩
theorem dd_Txt_readCommand_114 : Dc mi_Txt_readCommand 114 (.getfield 29) 3 117 := ⟨by decide +kernel, rfl⟩
theorem dd_Txt_readCommand_117 : Dc mi_Txt_readCommand 117 (.iconst 1) 1 118 := ⟨by decide +kernel, rfl⟩
theorem dd_Txt_readCommand_118 : Dc mi_Txt_readCommand 118 (.iadd) 1 119 := ⟨by decide +kernel, rfl⟩
theorem dd_Txt_readCommand_119 : Dc mi_Txt_readCommand 119 (.putfield 29) 3 122 := ⟨by decide +kernel, rfl⟩
theorem dd_Txt_readCommand_122 : Dc mi_Txt_readCommand 122 (.aload_n 1) 1 123 := ⟨by decide +kernel, rfl⟩
theorem dd_Txt_readCommand_123 : Dc mi_Txt_readCommand 123 (.aload_n 0) 1 124 := ⟨by decide +kernel, rfl⟩
theorem dd_Txt_readCommand_124 : Dc mi_Txt_readCommand 124 (.iconst 0) 1 125 := ⟨by decide +kernel, rfl⟩
theorem dd_Txt_readCommand_125 : Dc mi_Txt_readCommand 125 (.iconst 5) 1 126 := ⟨by decide +kernel, rfl⟩
theorem dd_Txt_readCommand_126 : Dc mi_Txt_readCommand 126 (.invokevirtual 55) 3 129 := ⟨by decide +kernel, rfl⟩
theorem dd_Txt_readCommand_129 : Dc mi_Txt_readCommand 129 (.putfield 59) 3 132 := ⟨by decide +kernel, rfl⟩
theorem dd_Txt_readCommand_132 : Db mi_Txt_readCommand 132 (.goto 21) 21 135 153 := ⟨by decide +kernel, rfl, rfl⟩
theorem dd_Txt_readCommand_135 : Dc mi_Txt_readCommand 135 (.aload_n 0) 1 136 := ⟨by decide +kernel, rfl⟩
theorem dd_Txt_readCommand_136 : Dc mi_Txt_readCommand 136 (.dup) 1 137 := ⟨by decide +kernel, rfl⟩
theorem dd_Txt_readCommand_137 : Dc mi_Txt_readCommand 137 (.getfield 29) 3 140 := ⟨by decide +kernel, rfl⟩
theorem dd_Txt_readCommand_140 : Dc mi_Txt_readCommand 140 (.iconst 1) 1 141 := ⟨by decide +kernel, rfl⟩
theorem dd_Txt_readCommand_141 : Dc mi_Txt_readCommand 141 (.iadd) 1 142 := ⟨by decide +kernel, rfl⟩
theorem dd_Txt_readCommand_142 : Dc mi_Txt_readCommand 142 (.putfield 29) 3 145 := ⟨by decide +kernel, rfl⟩
theorem dd_Txt_readCommand_145 : Db mi_Txt_readCommand 145 (.goto 8) 8 148 153 := ⟨by decide +kernel, rfl, rfl⟩
theorem dd_Txt_readCommand_148 : Dc mi_Txt_readCommand 148 (.aload_n 0) 1 149 := ⟨by decide +kernel, rfl⟩
theorem dd_Txt_readCommand_149 : Dc mi_Txt_readCommand 149 (.iconst 1) 1 150 := ⟨by decide +kernel, rfl⟩
theorem dd_Txt_readCommand_150 : Dc mi_Txt_readCommand 150 (.putfield 32) 3 153 := ⟨by decide +kernel, rfl⟩
theorem dd_Txt_readCommand_153 : decode (mbc mi_Txt_readCommand) 153 = .ok (retI (mrt mi_Txt_readCommand), 1) := by decide +kernel
theorem dd_Txt_signHere_0 : Dc mi_Txt_signHere 0 (.aload_n 0) 1 1 := ⟨by decide +kernel, rfl⟩
theorem dd_Txt_signHere_1 : Dc mi_Txt_signHere 1 (.getfield 29) 3 4 := ⟨by decide +kernel, rfl⟩
theorem dd_Txt_signHere_4 : Db mi_Txt_signHere 4 (.ifCond .lt 27) 27 7 31 := ⟨by decide +kernel, rfl, rfl⟩
theorem dd_Txt_signHere_7 : Dc mi_Txt_signHere 7 (.aload_n 0) 1 8 := ⟨by decide +kernel, rfl⟩
theorem dd_Txt_signHere_8 : Dc mi_Txt_signHere 8 (.getfield 29) 3 11 := ⟨by decide +kernel, rfl⟩
theorem dd_Txt_signHere_11 : Dc mi_Txt_signHere 11 (.aload_n 0) 1 12 := ⟨by decide +kernel, rfl⟩
theorem dd_Txt_signHere_12 : Dc mi_Txt_signHere 12 (.getfield 22) 3 15 := ⟨by decide +kernel, rfl⟩
theorem dd_Txt_signHere_15 : Db mi_Txt_signHere 15 (.if_icmp .ge 16) 16 18 31 := ⟨by decide +kernel, rfl, rfl⟩
theorem dd_Txt_signHere_18 : Dc mi_Txt_signHere 18 (.aload_n 0) 1 19 := ⟨by decide +kernel, rfl⟩
theorem dd_Txt_signHere_19 : Dc mi_Txt_signHere 19 (.getfield 29) 3 22 := ⟨by decide +kernel, rfl⟩
theorem dd_Txt_signHere_22 : Dc mi_Txt_signHere 22 (.bipush 60) 2 24 := ⟨by decide +kernel, rfl⟩
theorem dd_Txt_signHere_24 : Db mi_Txt_signHere 24 (.if_icmp .ge 7) 7 27 31 := ⟨by decide +kernel, rfl, rfl⟩
theorem dd_Txt_signHere_27 : Dc mi_Txt_signHere 27 (.iconst 1) 1 28 := ⟨by decide +kernel, rfl⟩
theorem dd_Txt_signHere_28 : Db mi_Txt_signHere 28 (.goto 4) 4 31 32 := ⟨by decide +kernel, rfl, rfl⟩
theorem dd_Txt_signHere_31 : Dc mi_Txt_signHere 31 (.iconst 0) 1 32 := ⟨by decide +kernel, rfl⟩
theorem dd_Txt_signHere_32 : Dc mi_Txt_signHere 32 (.istore_n 1) 1 33 := ⟨by decide +kernel, rfl⟩
theorem dd_Txt_signHere_33 : Dc mi_Txt_signHere 33 (.iload_n 1) 1 34 := ⟨by decide +kernel, rfl⟩
theorem dd_Txt_signHere_34 : Db mi_Txt_signHere 34 (.ifCond .eq 15) 15 37 49 := ⟨by decide +kernel, rfl, rfl⟩
theorem dd_Txt_signHere_37 : Dc mi_Txt_signHere 37 (.aload_n 0) 1 38 := ⟨by decide +kernel, rfl⟩
theorem dd_Txt_signHere_38 : Dc mi_Txt_signHere 38 (.getfield 9) 3 41 := ⟨by decide +kernel, rfl⟩
theorem dd_Txt_signHere_41 : Dc mi_Txt_signHere 41 (.aload_n 0) 1 42 := ⟨by decide +kernel, rfl⟩
theorem dd_Txt_signHere_42 : Dc mi_Txt_signHere 42 (.getfield 29) 3 45 := ⟨by decide +kernel, rfl⟩
theorem dd_Txt_signHere_45 : Dc mi_Txt_signHere 45 (.caload) 1 46 := ⟨by decide +kernel, rfl⟩
theorem dd_Txt_signHere_46 : Db mi_Txt_signHere 46 (.goto 4) 4 49 50 := ⟨by decide +kernel, rfl, rfl⟩
theorem dd_Txt_signHere_49 : Dc mi_Txt_signHere 49 (.iconst 0) 1 50 := ⟨by decide +kernel, rfl⟩
theorem dd_Txt_signHere_50 : decode (mbc mi_Txt_signHere) 50 = .ok (retI (mrt mi_Txt_signHere), 1) := by decide +kernel
theorem dd_Txt_readTwoNumbers_0 : Dc mi_Txt_readTwoNumbers 0 (.aload_n 0) 1 1 := ⟨by decide +kernel, rfl⟩
theorem dd_Txt_readTwoNumbers_1 : Dc mi_Txt_readTwoNumbers 1 (.dup) 1 2 := ⟨by decide +kernel, rfl⟩
theorem dd_Txt_readTwoNumbers_2 : Dc mi_Txt_readTwoNumbers 2 (.getfield 29) 3 5 := ⟨by decide +kernel, rfl⟩
theorem dd_Txt_readTwoNumbers_5 : Dc mi_Txt_readTwoNumbers 5 (.iconst 1) 1 6 := ⟨by decide +kernel, rfl⟩
theorem dd_Txt_readTwoNumbers_6 : Dc mi_Txt_readTwoNumbers 6 (.iadd) 1 7 := ⟨by decide +kernel, rfl⟩
theorem dd_Txt_readTwoNumbers_7 : Dc mi_Txt_readTwoNumbers 7 (.putfield 29) 3 10 := ⟨by decide +kernel, rfl⟩
theorem dd_Txt_readTwoNumbers_10 : Dc mi_Txt_readTwoNumbers 10 (.aload_n 1) 1 11 := ⟨by decide +kernel, rfl⟩
theorem dd_Txt_readTwoNumbers_11 : Dc mi_Txt_readTwoNumbers 11 (.aload_n 0) 1 12 := ⟨by decide +kernel, rfl⟩
theorem dd_Txt_readTwoNumbers_12 : Dc mi_Txt_readTwoNumbers 12 (.iconst 0) 1 13 := ⟨by decide +kernel, rfl⟩
theorem dd_Txt_readTwoNumbers_13 : Dc mi_Txt_readTwoNumbers 13 (.iconst 5) 1 14 := ⟨by decide +kernel, rfl⟩
theorem dd_Txt_readTwoNumbers_14 : Dc mi_Txt_readTwoNumbers 14 (.invokevirtual 55) 3 17 := ⟨by decide +kernel, rfl⟩
theorem dd_Txt_readTwoNumbers_17 : Dc mi_Txt_readTwoNumbers 17 (.putfield 59) 3 20 := ⟨by decide +kernel, rfl⟩
theorem dd_Txt_readTwoNumbers_20 : Dc mi_Txt_readTwoNumbers 20 (.aload_n 0) 1 21 := ⟨by decide +kernel, rfl⟩
theorem dd_Txt_readTwoNumbers_21 : Dc mi_Txt_readTwoNumbers 21 (.bipush 58) 2 23 := ⟨by decide +kernel, rfl⟩
theorem dd_Txt_readTwoNumbers_23 : Dc mi_Txt_readTwoNumbers 23 (.invokevirtual 40) 3 26 := ⟨by decide +kernel, rfl⟩
theorem dd_Txt_readTwoNumbers_26 : Dc mi_Txt_readTwoNumbers 26 (.aload_n 1) 1 27 := ⟨by decide +kernel, rfl⟩
theorem dd_Txt_readTwoNumbers_27 : Dc mi_Txt_readTwoNumbers 27 (.aload_n 0) 1 28 := ⟨by decide +kernel, rfl⟩
theorem dd_Txt_readTwoNumbers_28 : Dc mi_Txt_readTwoNumbers 28 (.iload_n 2) 1 29 := ⟨by decide +kernel, rfl⟩
theorem dd_Txt_readTwoNumbers_29 : Dc mi_Txt_readTwoNumbers 29 (.iload_n 3) 1 30 := ⟨by decide +kernel, rfl⟩
theorem dd_Txt_readTwoNumbers_30 : Dc mi_Txt_readTwoNumbers 30 (.invokevirtual 55) 3 33 := ⟨by decide +kernel, rfl⟩
theorem dd_Txt_readTwoNumbers_33 : Dc mi_Txt_readTwoNumbers 33 (.putfield 62) 3 36 := ⟨by decide +kernel, rfl⟩
theorem dd_Txt_readTwoNumbers_36 : decode (mbc mi_Txt_readTwoNumbers) 36 = .ok (retI (mrt mi_Txt_readTwoNumbers), 1) := by decide +kernel
theorem dd_Txt_readNumber_0 : Dc mi_Txt_readNumber 0 (.aload_n 0) 1 1 := ⟨by decide +kernel, rfl⟩
theorem dd_Txt_readNumber_1 : Dc mi_Txt_readNumber 1 (.invokevirtual 65) 3 4 := ⟨by decide +kernel, rfl⟩
theorem dd_Txt_readNumber_4 : Dc mi_Txt_readNumber 4 (.istore_n 3) 1 5 := ⟨by decide +kernel, rfl⟩
theorem dd_Txt_readNumber_5 : Dc mi_Txt_readNumber 5 (.aload_n 0) 1 6 := ⟨by decide +kernel, rfl⟩
theorem dd_Txt_readNumber_6 : Dc mi_Txt_readNumber 6 (.getfield 32) 3 9 := ⟨by decide +kernel, rfl⟩
theorem dd_Txt_readNumber_9 : Db mi_Txt_readNumber 9 (.ifCond .ne 13) 13 12 22 := ⟨by decide +kernel, rfl, rfl⟩
theorem dd_Txt_readNumber_12 : Dc mi_Txt_readNumber 12 (.iload_n 3) 1 13 := ⟨by decide +kernel, rfl⟩
theorem dd_Txt_readNumber_13 : Dc mi_Txt_readNumber 13 (.iload_n 1) 1 14 := ⟨by decide +kernel, rfl⟩
theorem dd_Txt_readNumber_14 : Db mi_Txt_readNumber 14 (.if_icmp .lt 8) 8 17 22 := ⟨by decide +kernel, rfl, rfl⟩
theorem dd_Txt_readNumber_17 : Dc mi_Txt_readNumber 17 (.iload_n 3) 1 18 := ⟨by decide +kernel, rfl⟩
theorem dd_Txt_readNumber_18 : Dc mi_Txt_readNumber 18 (.iload_n 2) 1 19 := ⟨by decide +kernel, rfl⟩
theorem dd_Txt_readNumber_19 : Db mi_Txt_readNumber 19 (.if_icmp .le 10) 10 22 29 := ⟨by decide +kernel, rfl, rfl⟩
theorem dd_Txt_readNumber_22 : Dc mi_Txt_readNumber 22 (.aload_n 0) 1 23 := ⟨by decide +kernel, rfl⟩
theorem dd_Txt_readNumber_23 : Dc mi_Txt_readNumber 23 (.iconst 1) 1 24 := ⟨by decide +kernel, rfl⟩
theorem dd_Txt_readNumber_24 : Dc mi_Txt_readNumber 24 (.putfield 32) 3 27 := ⟨by decide +kernel, rfl⟩
theorem dd_Txt_readNumber_27 : Dc mi_Txt_readNumber 27 (.iconst 0) 1 28 := ⟨by decide +kernel, rfl⟩
theorem dd_Txt_readNumber_28 : decode (mbc mi_Txt_readNumber) 28 = .ok (retI (mrt mi_Txt_readNumber), 1) := by decide +kernel
theorem dd_Txt_readNumber_29 : Dc mi_Txt_readNumber 29 (.aload_n 0) 1 30 := ⟨by decide +kernel, rfl⟩
theorem dd_Txt_readNumber_30 : Dc mi_Txt_readNumber 30 (.dup) 1 31 := ⟨by decide +kernel, rfl⟩
theorem dd_Txt_readNumber_31 : Dc mi_Txt_readNumber 31 (.getfield 29) 3 34 := ⟨by decide +kernel, rfl⟩
theorem dd_Txt_readNumber_34 : Dc mi_Txt_readNumber 34 (.iconst 1) 1 35 := ⟨by decide +kernel, rfl⟩
theorem dd_Txt_readNumber_35 : Dc mi_Txt_readNumber 35 (.iadd) 1 36 := ⟨by decide +kernel, rfl⟩
theorem dd_Txt_readNumber_36 : Dc mi_Txt_readNumber 36 (.putfield 29) 3 39 := ⟨by decide +kernel, rfl⟩
theorem dd_Txt_readNumber_39 : Dc mi_Txt_readNumber 39 (.iconst 1) 1 40 := ⟨by decide +kernel, rfl⟩
theorem dd_Txt_readNumber_40 : Dc mi_Txt_readNumber 40 (.istore 4) 2 42 := ⟨by decide +kernel, rfl⟩
theorem dd_Txt_readNumber_42 : Dc mi_Txt_readNumber 42 (.iload 4) 2 44 := ⟨by decide +kernel, rfl⟩
theorem dd_Txt_readNumber_44 : Dc mi_Txt_readNumber 44 (.iconst 3) 1 45 := ⟨by decide +kernel, rfl⟩
theorem dd_Txt_readNumber_45 : Db mi_Txt_readNumber 45 (.if_icmp .gt 62) 62 48 107 := ⟨by decide +kernel, rfl, rfl⟩
theorem dd_Txt_readNumber_48 : Dc mi_Txt_readNumber 48 (.aload_n 0) 1 49 := ⟨by decide +kernel, rfl⟩
theorem dd_Txt_readNumber_49 : Dc mi_Txt_readNumber 49 (.invokevirtual 65) 3 52 := ⟨by decide +kernel, rfl⟩
theorem dd_Txt_readNumber_52 : Dc mi_Txt_readNumber 52 (.istore 5) 2 54 := ⟨by decide +kernel, rfl⟩
theorem dd_Txt_readNumber_54 : Dc mi_Txt_readNumber 54 (.iload 5) 2 56 := ⟨by decide +kernel, rfl⟩
theorem dd_Txt_readNumber_56 : Db mi_Txt_readNumber 56 (.ifCond .ge 5) 5 59 61 := ⟨by decide +kernel, rfl, rfl⟩
theorem dd_Txt_readNumber_59 : Dc mi_Txt_readNumber 59 (.iload_n 3) 1 60 := ⟨by decide +kernel, rfl⟩
theorem dd_Txt_readNumber_60 : decode (mbc mi_Txt_readNumber) 60 = .ok (retI (mrt mi_Txt_readNumber), 1) := by decide +kernel
theorem dd_Txt_readNumber_61 : Dc mi_Txt_readNumber 61 (.iload_n 3) 1 62 := ⟨by decide +kernel, rfl⟩
theorem dd_Txt_readNumber_62 : Db mi_Txt_readNumber 62 (.ifCond .eq 14) 14 65 76 := ⟨by decide +kernel, rfl, rfl⟩
theorem dd_Txt_readNumber_65 : Dc mi_Txt_readNumber 65 (.iload_n 3) 1 66 := ⟨by decide +kernel, rfl⟩
theorem dd_Txt_readNumber_66 : Dc mi_Txt_readNumber 66 (.bipush 10) 2 68 := ⟨by decide +kernel, rfl⟩
theorem dd_Txt_readNumber_68 : Dc mi_Txt_readNumber 68 (.imul) 1 69 := ⟨by decide +kernel, rfl⟩
theorem dd_Txt_readNumber_69 : Dc mi_Txt_readNumber 69 (.iload 5) 2 71 := ⟨by decide +kernel, rfl⟩
theorem dd_Txt_readNumber_71 : Dc mi_Txt_readNumber 71 (.iadd) 1 72 := ⟨by decide +kernel, rfl⟩
theorem dd_Txt_readNumber_72 : Dc mi_Txt_readNumber 72 (.iload_n 2) 1 73 := ⟨by decide +kernel, rfl⟩
theorem dd_Txt_readNumber_73 : Db mi_Txt_readNumber 73 (.if_icmp .le 10) 10 76 83 := ⟨by decide +kernel, rfl, rfl⟩
theorem dd_Txt_readNumber_76 : Dc mi_Txt_readNumber 76 (.aload_n 0) 1 77 := ⟨by decide +kernel, rfl⟩
theorem dd_Txt_readNumber_77 : Dc mi_Txt_readNumber 77 (.iconst 1) 1 78 := ⟨by decide +kernel, rfl⟩
theorem dd_Txt_readNumber_78 : Dc mi_Txt_readNumber 78 (.putfield 32) 3 81 := ⟨by decide +kernel, rfl⟩
theorem dd_Txt_readNumber_81 : Dc mi_Txt_readNumber 81 (.iconst 0) 1 82 := ⟨by decide +kernel, rfl⟩
theorem dd_Txt_readNumber_82 : decode (mbc mi_Txt_readNumber) 82 = .ok (retI (mrt mi_Txt_readNumber), 1) := by decide +kernel
theorem dd_Txt_readNumber_83 : Dc mi_Txt_readNumber 83 (.iload_n 3) 1 84 := ⟨by decide +kernel, rfl⟩
theorem dd_Txt_readNumber_84 : Dc mi_Txt_readNumber 84 (.bipush 10) 2 86 := ⟨by decide +kernel, rfl⟩
theorem dd_Txt_readNumber_86 : Dc mi_Txt_readNumber 86 (.imul) 1 87 := ⟨by decide +kernel, rfl⟩
theorem dd_Txt_readNumber_87 : Dc mi_Txt_readNumber 87 (.iload 5) 2 89 := ⟨by decide +kernel, rfl⟩
theorem dd_Txt_readNumber_89 : Dc mi_Txt_readNumber 89 (.iadd) 1 90 := ⟨by decide +kernel, rfl⟩
theorem dd_Txt_readNumber_90 : Dc mi_Txt_readNumber 90 (.istore_n 3) 1 91 := ⟨by decide +kernel, rfl⟩
theorem dd_Txt_readNumber_91 : Dc mi_Txt_readNumber 91 (.aload_n 0) 1 92 := ⟨by decide +kernel, rfl⟩
theorem dd_Txt_readNumber_92 : Dc mi_Txt_readNumber 92 (.dup) 1 93 := ⟨by decide +kernel, rfl⟩
theorem dd_Txt_readNumber_93 : Dc mi_Txt_readNumber 93 (.getfield 29) 3 96 := ⟨by decide +kernel, rfl⟩
theorem dd_Txt_readNumber_96 : Dc mi_Txt_readNumber 96 (.iconst 1) 1 97 := ⟨by decide +kernel, rfl⟩
theorem dd_Txt_readNumber_97 : Dc mi_Txt_readNumber 97 (.iadd) 1 98 := ⟨by decide +kernel, rfl⟩
theorem dd_Txt_readNumber_98 : Dc mi_Txt_readNumber 98 (.putfield 29) 3 101 := ⟨by decide +kernel, rfl⟩
theorem dd_Txt_readNumber_101 : Dc mi_Txt_readNumber 101 (.iinc 4 1) 3 104 := ⟨by decide +kernel, rfl⟩
theorem dd_Txt_readNumber_104 : Db mi_Txt_readNumber 104 (.goto (-62)) (-62) 107 42 := ⟨by decide +kernel, rfl, rfl⟩
theorem dd_Txt_readNumber_107 : Dc mi_Txt_readNumber 107 (.iload_n 3) 1 108 := ⟨by decide +kernel, rfl⟩
theorem dd_Txt_readNumber_108 : decode (mbc mi_Txt_readNumber) 108 = .ok (retI (mrt mi_Txt_readNumber), 1) := by decide +kernel
theorem dd_Txt_digitHere_0 : Dc mi_Txt_digitHere 0 (.aload_n 0) 1 1 := ⟨by decide +kernel, rfl⟩
theorem dd_Txt_digitHere_1 : Dc mi_Txt_digitHere 1 (.invokevirtual 44) 3 4 := ⟨by decide +kernel, rfl⟩
theorem dd_Txt_digitHere_4 : Dc mi_Txt_digitHere 4 (.istore_n 1) 1 5 := ⟨by decide +kernel, rfl⟩
theorem dd_Txt_digitHere_5 : Dc mi_Txt_digitHere 5 (.iload_n 1) 1 6 := ⟨by decide +kernel, rfl⟩
theorem dd_Txt_digitHere_6 : Dc mi_Txt_digitHere 6 (.bipush 48) 2 8 := ⟨by decide +kernel, rfl⟩
theorem dd_Txt_digitHere_8 : Db mi_Txt_digitHere 8 (.if_icmp .lt 16) 16 11 24 := ⟨by decide +kernel, rfl, rfl⟩
theorem dd_Txt_digitHere_11 : Dc mi_Txt_digitHere 11 (.iload_n 1) 1 12 := ⟨by decide +kernel, rfl⟩
theorem dd_Txt_digitHere_12 : Dc mi_Txt_digitHere 12 (.bipush 57) 2 14 := ⟨by decide +kernel, rfl⟩
theorem dd_Txt_digitHere_14 : Db mi_Txt_digitHere 14 (.if_icmp .gt 10) 10 17 24 := ⟨by decide +kernel, rfl, rfl⟩
theorem dd_Txt_digitHere_17 : Dc mi_Txt_digitHere 17 (.iload_n 1) 1 18 := ⟨by decide +kernel, rfl⟩
theorem dd_Txt_digitHere_18 : Dc mi_Txt_digitHere 18 (.bipush 48) 2 20 := ⟨by decide +kernel, rfl⟩
theorem dd_Txt_digitHere_20 : Dc mi_Txt_digitHere 20 (.isub) 1 21 := ⟨by decide +kernel, rfl⟩
theorem dd_Txt_digitHere_21 : Db mi_Txt_digitHere 21 (.goto 4) 4 24 25 := ⟨by decide +kernel, rfl, rfl⟩
theorem dd_Txt_digitHere_24 : Dc mi_Txt_digitHere 24 (.iconst (-1)) 1 25 := ⟨by decide +kernel, rfl⟩
theorem dd_Txt_digitHere_25 : decode (mbc mi_Txt_digitHere) 25 = .ok (retI (mrt mi_Txt_digitHere), 1) := by decide +kernel
theorem dd_Txt_readSign_0 : Dc mi_Txt_readSign 0 (.aload_n 0) 1 1 := ⟨by decide +kernel, rfl⟩
theorem dd_Txt_readSign_1 : Dc mi_Txt_readSign 1 (.getfield 32) 3 4 := ⟨by decide +kernel, rfl⟩
theorem dd_Txt_readSign_4 : Db mi_Txt_readSign 4 (.ifCond .ne 11) 11 7 15 := ⟨by decide +kernel, rfl, rfl⟩
theorem dd_Txt_readSign_7 : Dc mi_Txt_readSign 7 (.aload_n 0) 1 8 := ⟨by decide +kernel, rfl⟩
theorem dd_Txt_readSign_8 : Dc mi_Txt_readSign 8 (.invokevirtual 44) 3 11 := ⟨by decide +kernel, rfl⟩
theorem dd_Txt_readSign_11 : Dc mi_Txt_readSign 11 (.iload_n 1) 1 12 := ⟨by decide +kernel, rfl⟩
theorem dd_Txt_readSign_12 : Db mi_Txt_readSign 12 (.if_icmp .eq 9) 9 15 21 := ⟨by decide +kernel, rfl, rfl⟩
theorem dd_Txt_readSign_15 : Dc mi_Txt_readSign 15 (.aload_n 0) 1 16 := ⟨by decide +kernel, rfl⟩
theorem dd_Txt_readSign_16 : Dc mi_Txt_readSign 16 (.iconst 1) 1 17 := ⟨by decide +kernel, rfl⟩
theorem dd_Txt_readSign_17 : Dc mi_Txt_readSign 17 (.putfield 32) 3 20 := ⟨by decide +kernel, rfl⟩
theorem dd_Txt_readSign_20 : decode (mbc mi_Txt_readSign) 20 = .ok (retI (mrt mi_Txt_readSign), 1) := by decide +kernel
theorem dd_Txt_readSign_21 : Dc mi_Txt_readSign 21 (.aload_n 0) 1 22 := ⟨by decide +kernel, rfl⟩
theorem dd_Txt_readSign_22 : Dc mi_Txt_readSign 22 (.dup) 1 23 := ⟨by decide +kernel, rfl⟩
theorem dd_Txt_readSign_23 : Dc mi_Txt_readSign 23 (.getfield 29) 3 26 := ⟨by decide +kernel, rfl⟩
theorem dd_Txt_readSign_26 : Dc mi_Txt_readSign 26 (.iconst 1) 1 27 := ⟨by decide +kernel, rfl⟩
theorem dd_Txt_readSign_27 : Dc mi_Txt_readSign 27 (.iadd) 1 28 := ⟨by decide +kernel, rfl⟩
theorem dd_Txt_readSign_28 : Dc mi_Txt_readSign 28 (.putfield 29) 3 31 := ⟨by decide +kernel, rfl⟩
theorem dd_Txt_readSign_31 : decode (mbc mi_Txt_readSign) 31 = .ok (retI (mrt mi_Txt_readSign), 1) := by decide +kernel
theorem dd_Txt_commandCount_0 : Dc mi_Txt_commandCount 0 (.aload_n 0) 1 1 := ⟨by decide +kernel, rfl⟩
theorem dd_Txt_commandCount_1 : Dc mi_Txt_commandCount 1 (.getfield 26) 3 4 := ⟨by decide +kernel, rfl⟩
theorem dd_Txt_commandCount_4 : decode (mbc mi_Txt_commandCount) 4 = .ok (retI (mrt mi_Txt_commandCount), 1) := by decide +kernel
theorem dd_Txt_commandAt_0 : Dc mi_Txt_commandAt 0 (.iload_n 1) 1 1 := ⟨by decide +kernel, rfl⟩
theorem dd_Txt_commandAt_1 : Db mi_Txt_commandAt 1 (.ifCond .lt 9) 9 4 10 := ⟨by decide +kernel, rfl, rfl⟩
theorem dd_Txt_commandAt_4 : Dc mi_Txt_commandAt 4 (.iload_n 1) 1 5 := ⟨by decide +kernel, rfl⟩
theorem dd_Txt_commandAt_5 : Dc mi_Txt_commandAt 5 (.bipush 30) 2 7 := ⟨by decide +kernel, rfl⟩
theorem dd_Txt_commandAt_7 : Db mi_Txt_commandAt 7 (.if_icmp .lt 7) 7 10 14 := ⟨by decide +kernel, rfl, rfl⟩
theorem dd_Txt_commandAt_10 : Dc mi_Txt_commandAt 10 (.aconst_null) 1 11 := ⟨by decide +kernel, rfl⟩
theorem dd_Txt_commandAt_11 : Db mi_Txt_commandAt 11 (.goto 9) 9 14 20 := ⟨by decide +kernel, rfl, rfl⟩
theorem dd_Txt_commandAt_14 : Dc mi_Txt_commandAt 14 (.aload_n 0) 1 15 := ⟨by decide +kernel, rfl⟩
theorem dd_Txt_commandAt_15 : Dc mi_Txt_commandAt 15 (.getfield 17) 3 18 := ⟨by decide +kernel, rfl⟩
theorem dd_Txt_commandAt_18 : Dc mi_Txt_commandAt 18 (.iload_n 1) 1 19 := ⟨by decide +kernel, rfl⟩
theorem dd_Txt_commandAt_19 : Dc mi_Txt_commandAt 19 (.aaload) 1 20 := ⟨by decide +kernel, rfl⟩
theorem dd_Txt_commandAt_20 : decode (mbc mi_Txt_commandAt) 20 = .ok (retI (mrt mi_Txt_commandAt), 1) := by decide +kernel
theorem dd_Poo_answerTo_0 : Dc mi_Poo_answerTo 0 (.aload_n 1) 1 1 := ⟨by decide +kernel, rfl⟩
theorem dd_Poo_answerTo_1 : Db mi_Poo_answerTo 1 (.ifnonnull 6) 6 4 7 := ⟨by decide +kernel, rfl, rfl⟩
theorem dd_Poo_answerTo_4 : Dc mi_Poo_answerTo 4 (.bipush (-5)) 2 6 := ⟨by decide +kernel, rfl⟩
theorem dd_Poo_answerTo_6 : decode (mbc mi_Poo_answerTo) 6 = .ok (retI (mrt mi_Poo_answerTo), 1) := by decide +kernel
theorem dd_Poo_answerTo_7 : Dc mi_Poo_answerTo 7 (.aload_n 1) 1 8 := ⟨by decide +kernel, rfl⟩
theorem dd_Poo_answerTo_8 : Dc mi_Poo_answerTo 8 (.getfield 164) 3 11 := ⟨by decide +kernel, rfl⟩
theorem dd_Poo_answerTo_11 : decode (mbc mi_Poo_answerTo) 11 = .ok (.lookupswitch 114 #[(97, 49), (101, 93), (102, 65), (115, 106), (116, 81)], 49) := by decide +kernel
theorem dd_Poo_answerTo_60 : Dc mi_Poo_answerTo 60 (.aload_n 0) 1 61 := ⟨by decide +kernel, rfl⟩
theorem dd_Poo_answerTo_61 : Dc mi_Poo_answerTo 61 (.getfield 10) 3 64 := ⟨by decide +kernel, rfl⟩
theorem dd_Poo_answerTo_64 : Dc mi_Poo_answerTo 64 (.aload_n 1) 1 65 := ⟨by decide +kernel, rfl⟩
theorem dd_Poo_answerTo_65 : Dc mi_Poo_answerTo 65 (.getfield 169) 3 68 := ⟨by decide +kernel, rfl⟩
theorem dd_Poo_answerTo_68 : Dc mi_Poo_answerTo 68 (.aload_n 1) 1 69 := ⟨by decide +kernel, rfl⟩
theorem dd_Poo_answerTo_69 : Dc mi_Poo_answerTo 69 (.getfield 172) 3 72 := ⟨by decide +kernel, rfl⟩
theorem dd_Poo_answerTo_72 : Dc mi_Poo_answerTo 72 (.invokevirtual 44) 3 75 := ⟨by decide +kernel, rfl⟩
theorem dd_Poo_answerTo_75 : decode (mbc mi_Poo_answerTo) 75 = .ok (retI (mrt mi_Poo_answerTo), 1) := by decide +kernel
theorem dd_Poo_answerTo_76 : Dc mi_Poo_answerTo 76 (.aload_n 0) 1 77 := ⟨by decide +kernel, rfl⟩
theorem dd_Poo_answerTo_77 : Dc mi_Poo_answerTo 77 (.getfield 10) 3 80 := ⟨by decide +kernel, rfl⟩
theorem dd_Poo_answerTo_80 : Dc mi_Poo_answerTo 80 (.aload_n 1) 1 81 := ⟨by decide +kernel, rfl⟩
theorem dd_Poo_answerTo_81 : Dc mi_Poo_answerTo 81 (.getfield 169) 3 84 := ⟨by decide +kernel, rfl⟩
theorem dd_Poo_answerTo_84 : Dc mi_Poo_answerTo 84 (.aload_n 1) 1 85 := ⟨by decide +kernel, rfl⟩
theorem dd_Poo_answerTo_85 : Dc mi_Poo_answerTo 85 (.getfield 172) 3 88 := ⟨by decide +kernel, rfl⟩
theorem dd_Poo_answerTo_88 : Dc mi_Poo_answerTo 88 (.invokevirtual 59) 3 91 := ⟨by decide +kernel, rfl⟩
theorem dd_Poo_answerTo_91 : decode (mbc mi_Poo_answerTo) 91 = .ok (retI (mrt mi_Poo_answerTo), 1) := by decide +kernel
theorem dd_Poo_answerTo_92 : Dc mi_Poo_answerTo 92 (.aload_n 0) 1 93 := ⟨by decide +kernel, rfl⟩
theorem dd_Poo_answerTo_93 : Dc mi_Poo_answerTo 93 (.getfield 10) 3 96 := ⟨by decide +kernel, rfl⟩
theorem dd_Poo_answerTo_96 : Dc mi_Poo_answerTo 96 (.aload_n 1) 1 97 := ⟨by decide +kernel, rfl⟩
theorem dd_Poo_answerTo_97 : Dc mi_Poo_answerTo 97 (.getfield 169) 3 100 := ⟨by decide +kernel, rfl⟩
theorem dd_Poo_answerTo_100 : Dc mi_Poo_answerTo 100 (.invokevirtual 79) 3 103 := ⟨by decide +kernel, rfl⟩
theorem dd_Poo_answerTo_103 : decode (mbc mi_Poo_answerTo) 103 = .ok (retI (mrt mi_Poo_answerTo), 1) := by decide +kernel
theorem dd_Poo_answerTo_104 : Dc mi_Poo_answerTo 104 (.aload_n 0) 1 105 := ⟨by decide +kernel, rfl⟩
theorem dd_Poo_answerTo_105 : Dc mi_Poo_answerTo 105 (.getfield 10) 3 108 := ⟨by decide +kernel, rfl⟩
theorem dd_Poo_answerTo_108 : Dc mi_Poo_answerTo 108 (.aload_n 1) 1 109 := ⟨by decide +kernel, rfl⟩
theorem dd_Poo_answerTo_109 : Dc mi_Poo_answerTo 109 (.getfield 169) 3 112 := ⟨by decide +kernel, rfl⟩
theorem dd_Poo_answerTo_112 : Dc mi_Poo_answerTo 112 (.iconst 0) 1 113 := ⟨by decide +kernel, rfl⟩
theorem dd_Poo_answerTo_113 : Dc mi_Poo_answerTo 113 (.invokevirtual 69) 3 116 := ⟨by decide +kernel, rfl⟩
theorem dd_Poo_answerTo_116 : decode (mbc mi_Poo_answerTo) 116 = .ok (retI (mrt mi_Poo_answerTo), 1) := by decide +kernel
theorem dd_Poo_answerTo_117 : Dc mi_Poo_answerTo 117 (.aload_n 0) 1 118 := ⟨by decide +kernel, rfl⟩
theorem dd_Poo_answerTo_118 : Dc mi_Poo_answerTo 118 (.getfield 10) 3 121 := ⟨by decide +kernel, rfl⟩
theorem dd_Poo_answerTo_121 : Dc mi_Poo_answerTo 121 (.invokevirtual 82) 3 124 := ⟨by decide +kernel, rfl⟩
theorem dd_Poo_answerTo_124 : decode (mbc mi_Poo_answerTo) 124 = .ok (retI (mrt mi_Poo_answerTo), 1) := by decide +kernel
theorem dd_Poo_answerTo_125 : Dc mi_Poo_answerTo 125 (.bipush (-5)) 2 127 := ⟨by decide +kernel, rfl⟩
theorem dd_Poo_answerTo_127 : decode (mbc mi_Poo_answerTo) 127 = .ok (retI (mrt mi_Poo_answerTo), 1) := by decide +kernel
theorem dd_Poo_isError_0 : Dc mi_Poo_isError 0 (.iload_n 0) 1 1 := ⟨by decide +kernel, rfl⟩
theorem dd_Poo_isError_1 : Db mi_Poo_isError 1 (.ifCond .ge 13) 13 4 14 := ⟨by decide +kernel, rfl, rfl⟩
theorem dd_Poo_isError_4 : Dc mi_Poo_isError 4 (.iload_n 0) 1 5 := ⟨by decide +kernel, rfl⟩
theorem dd_Poo_isError_5 : Dc mi_Poo_isError 5 (.bipush (-5)) 2 7 := ⟨by decide +kernel, rfl⟩
theorem dd_Poo_isError_7 : Db mi_Poo_isError 7 (.if_icmp .eq 7) 7 10 14 := ⟨by decide +kernel, rfl, rfl⟩
theorem dd_Poo_isError_10 : Dc mi_Poo_isError 10 (.iconst 1) 1 11 := ⟨by decide +kernel, rfl⟩
theorem dd_Poo_isError_11 : Db mi_Poo_isError 11 (.goto 4) 4 14 15 := ⟨by decide +kernel, rfl, rfl⟩
theorem dd_Poo_isError_14 : Dc mi_Poo_isError 14 (.iconst 0) 1 15 := ⟨by decide +kernel, rfl⟩
theorem dd_Poo_isError_15 : decode (mbc mi_Poo_isError) 15 = .ok (retI (mrt mi_Poo_isError), 1) := by decide +kernel
theorem dd_Poo_noteStop_0 : Dc mi_Poo_noteStop 0 (.aload_n 0) 1 1 := ⟨by decide +kernel, rfl⟩
theorem dd_Poo_noteStop_1 : Dc mi_Poo_noteStop 1 (.iconst 1) 1 2 := ⟨by decide +kernel, rfl⟩
theorem dd_Poo_noteStop_2 : Dc mi_Poo_noteStop 2 (.putfield 115) 3 5 := ⟨by decide +kernel, rfl⟩
theorem dd_Poo_noteStop_5 : Dc mi_Poo_noteStop 5 (.aload_n 0) 1 6 := ⟨by decide +kernel, rfl⟩
theorem dd_Poo_noteStop_6 : Dc mi_Poo_noteStop 6 (.iload_n 1) 1 7 := ⟨by decide +kernel, rfl⟩
theorem dd_Poo_noteStop_7 : Dc mi_Poo_noteStop 7 (.putfield 119) 3 10 := ⟨by decide +kernel, rfl⟩
theorem dd_Poo_noteStop_10 : Dc mi_Poo_noteStop 10 (.aload_n 0) 1 11 := ⟨by decide +kernel, rfl⟩
theorem dd_Poo_noteStop_11 : Dc mi_Poo_noteStop 11 (.iload_n 2) 1 12 := ⟨by decide +kernel, rfl⟩
theorem dd_Poo_noteStop_12 : Dc mi_Poo_noteStop 12 (.putfield 123) 3 15 := ⟨by decide +kernel, rfl⟩
theorem dd_Poo_noteStop_15 : decode (mbc mi_Poo_noteStop) 15 = .ok (retI (mrt mi_Poo_noteStop), 1) := by decide +kernel
theorem dd_Poo_stopped_0 : Dc mi_Poo_stopped 0 (.iload_n 1) 1 1 := ⟨by decide +kernel, rfl⟩
theorem dd_Poo_stopped_1 : Db mi_Poo_stopped 1 (.ifCond .lt 8) 8 4 9 := ⟨by decide +kernel, rfl, rfl⟩
theorem dd_Poo_stopped_4 : Dc mi_Poo_stopped 4 (.iload_n 1) 1 5 := ⟨by decide +kernel, rfl⟩
theorem dd_Poo_stopped_5 : Dc mi_Poo_stopped 5 (.iconst 1) 1 6 := ⟨by decide +kernel, rfl⟩
theorem dd_Poo_stopped_6 : Db mi_Poo_stopped 6 (.if_icmp .le 6) 6 9 12 := ⟨by decide +kernel, rfl, rfl⟩
theorem dd_Poo_stopped_9 : Dc mi_Poo_stopped 9 (.bipush (-2)) 2 11 := ⟨by decide +kernel, rfl⟩
theorem dd_Poo_stopped_11 : decode (mbc mi_Poo_stopped) 11 = .ok (retI (mrt mi_Poo_stopped), 1) := by decide +kernel
theorem dd_Poo_stopped_12 : Dc mi_Poo_stopped 12 (.aload_n 0) 1 13 := ⟨by decide +kernel, rfl⟩
theorem dd_Poo_stopped_13 : Dc mi_Poo_stopped 13 (.getfield 115) 3 16 := ⟨by decide +kernel, rfl⟩
theorem dd_Poo_stopped_16 : Db mi_Poo_stopped 16 (.ifCond .ne 6) 6 19 22 := ⟨by decide +kernel, rfl, rfl⟩
theorem dd_Poo_stopped_19 : Dc mi_Poo_stopped 19 (.bipush (-5)) 2 21 := ⟨by decide +kernel, rfl⟩
theorem dd_Poo_stopped_21 : decode (mbc mi_Poo_stopped) 21 = .ok (retI (mrt mi_Poo_stopped), 1) := by decide +kernel
theorem dd_Poo_stopped_22 : Dc mi_Poo_stopped 22 (.iload_n 1) 1 23 := ⟨by decide +kernel, rfl⟩
theorem dd_Poo_stopped_23 : Db mi_Poo_stopped 23 (.ifCond .ne 10) 10 26 33 := ⟨by decide +kernel, rfl, rfl⟩
theorem dd_Poo_stopped_26 : Dc mi_Poo_stopped 26 (.aload_n 0) 1 27 := ⟨by decide +kernel, rfl⟩
theorem dd_Poo_stopped_27 : Dc mi_Poo_stopped 27 (.getfield 119) 3 30 := ⟨by decide +kernel, rfl⟩
theorem dd_Poo_stopped_30 : Db mi_Poo_stopped 30 (.goto 7) 7 33 37 := ⟨by decide +kernel, rfl, rfl⟩
theorem dd_Poo_stopped_33 : Dc mi_Poo_stopped 33 (.aload_n 0) 1 34 := ⟨by decide +kernel, rfl⟩
theorem dd_Poo_stopped_34 : Dc mi_Poo_stopped 34 (.getfield 123) 3 37 := ⟨by decide +kernel, rfl⟩
theorem dd_Poo_stopped_37 : decode (mbc mi_Poo_stopped) 37 = .ok (retI (mrt mi_Poo_stopped), 1) := by decide +kernel
theorem dd_Poo_undo_0 : Dc mi_Poo_undo 0 (.aload_n 0) 1 1 := ⟨by decide +kernel, rfl⟩
theorem dd_Poo_undo_1 : Dc mi_Poo_undo 1 (.getfield 25) 3 4 := ⟨by decide +kernel, rfl⟩
theorem dd_Poo_undo_4 : Dc mi_Poo_undo 4 (.aload_n 0) 1 5 := ⟨by decide +kernel, rfl⟩
theorem dd_Poo_undo_5 : Dc mi_Poo_undo 5 (.getfield 10) 3 8 := ⟨by decide +kernel, rfl⟩
theorem dd_Poo_undo_8 : Dc mi_Poo_undo 8 (.invokevirtual 126) 3 11 := ⟨by decide +kernel, rfl⟩
theorem dd_Poo_undo_11 : decode (mbc mi_Poo_undo) 11 = .ok (retI (mrt mi_Poo_undo), 1) := by decide +kernel
theorem dd_His_takeLatest_0 : Dc mi_His_takeLatest 0 (.aload_n 0) 1 1 := ⟨by decide +kernel, rfl⟩
theorem dd_His_takeLatest_1 : Dc mi_His_takeLatest 1 (.getfield 22) 3 4 := ⟨by decide +kernel, rfl⟩
theorem dd_His_takeLatest_4 : Db mi_His_takeLatest 4 (.ifCond .ne 7) 7 7 11 := ⟨by decide +kernel, rfl, rfl⟩
theorem dd_His_takeLatest_7 : Dc mi_His_takeLatest 7 (.iconst 3) 1 8 := ⟨by decide +kernel, rfl⟩
theorem dd_His_takeLatest_8 : Db mi_His_takeLatest 8 (.goto 9) 9 11 17 := ⟨by decide +kernel, rfl, rfl⟩
theorem dd_His_takeLatest_11 : Dc mi_His_takeLatest 11 (.aload_n 0) 1 12 := ⟨by decide +kernel, rfl⟩
theorem dd_His_takeLatest_12 : Dc mi_His_takeLatest 12 (.getfield 22) 3 15 := ⟨by decide +kernel, rfl⟩
theorem dd_His_takeLatest_15 : Dc mi_His_takeLatest 15 (.iconst 1) 1 16 := ⟨by decide +kernel, rfl⟩
theorem dd_His_takeLatest_16 : Dc mi_His_takeLatest 16 (.isub) 1 17 := ⟨by decide +kernel, rfl⟩
theorem dd_His_takeLatest_17 : Dc mi_His_takeLatest 17 (.istore_n 2) 1 18 := ⟨by decide +kernel, rfl⟩
theorem dd_His_takeLatest_18 : Dc mi_His_takeLatest 18 (.aload_n 0) 1 19 := ⟨by decide +kernel, rfl⟩
theorem dd_His_takeLatest_19 : Dc mi_His_takeLatest 19 (.getfield 18) 3 22 := ⟨by decide +kernel, rfl⟩
theorem dd_His_takeLatest_22 : Db mi_His_takeLatest 22 (.ifCond .eq 12) 12 25 34 := ⟨by decide +kernel, rfl, rfl⟩
theorem dd_His_takeLatest_25 : Dc mi_His_takeLatest 25 (.iload_n 2) 1 26 := ⟨by decide +kernel, rfl⟩
theorem dd_His_takeLatest_26 : Db mi_His_takeLatest 26 (.ifCond .lt 8) 8 29 34 := ⟨by decide +kernel, rfl, rfl⟩
theorem dd_His_takeLatest_29 : Dc mi_His_takeLatest 29 (.iload_n 2) 1 30 := ⟨by decide +kernel, rfl⟩
theorem dd_His_takeLatest_30 : Dc mi_His_takeLatest 30 (.iconst 4) 1 31 := ⟨by decide +kernel, rfl⟩
theorem dd_His_takeLatest_31 : Db mi_His_takeLatest 31 (.if_icmp .lt 6) 6 34 37 := ⟨by decide +kernel, rfl, rfl⟩
theorem dd_His_takeLatest_34 : Dc mi_His_takeLatest 34 (.bipush (-5)) 2 36 := ⟨by decide +kernel, rfl⟩
theorem dd_His_takeLatest_36 : decode (mbc mi_His_takeLatest) 36 = .ok (retI (mrt mi_His_takeLatest), 1) := by decide +kernel
theorem dd_His_takeLatest_37 : Dc mi_His_takeLatest 37 (.aload_n 1) 1 38 := ⟨by decide +kernel, rfl⟩
theorem dd_His_takeLatest_38 : Dc mi_His_takeLatest 38 (.aload_n 0) 1 39 := ⟨by decide +kernel, rfl⟩
theorem dd_His_takeLatest_39 : Dc mi_His_takeLatest 39 (.getfield 11) 3 42 := ⟨by decide +kernel, rfl⟩
theorem dd_His_takeLatest_42 : Dc mi_His_takeLatest 42 (.iload_n 2) 1 43 := ⟨by decide +kernel, rfl⟩
theorem dd_His_takeLatest_43 : Dc mi_His_takeLatest 43 (.aaload) 1 44 := ⟨by decide +kernel, rfl⟩
theorem dd_His_takeLatest_44 : Dc mi_His_takeLatest 44 (.invokevirtual 25) 3 47 := ⟨by decide +kernel, rfl⟩
theorem dd_His_takeLatest_47 : Dc mi_His_takeLatest 47 (.aload_n 0) 1 48 := ⟨by decide +kernel, rfl⟩
theorem dd_His_takeLatest_48 : Dc mi_His_takeLatest 48 (.iload_n 2) 1 49 := ⟨by decide +kernel, rfl⟩
theorem dd_His_takeLatest_49 : Dc mi_His_takeLatest 49 (.putfield 22) 3 52 := ⟨by decide +kernel, rfl⟩
theorem dd_His_takeLatest_52 : Dc mi_His_takeLatest 52 (.aload_n 0) 1 53 := ⟨by decide +kernel, rfl⟩
theorem dd_His_takeLatest_53 : Dc mi_His_takeLatest 53 (.dup) 1 54 := ⟨by decide +kernel, rfl⟩
theorem dd_His_takeLatest_54 : Dc mi_His_takeLatest 54 (.getfield 18) 3 57 := ⟨by decide +kernel, rfl⟩
theorem dd_His_takeLatest_57 : Dc mi_His_takeLatest 57 (.iconst 1) 1 58 := ⟨by decide +kernel, rfl⟩
theorem dd_His_takeLatest_58 : Dc mi_His_takeLatest 58 (.isub) 1 59 := ⟨by decide +kernel, rfl⟩
theorem dd_His_takeLatest_59 : Dc mi_His_takeLatest 59 (.putfield 18) 3 62 := ⟨by decide +kernel, rfl⟩
theorem dd_His_takeLatest_62 : Dc mi_His_takeLatest 62 (.aload_n 0) 1 63 := ⟨by decide +kernel, rfl⟩
theorem dd_His_takeLatest_63 : Dc mi_His_takeLatest 63 (.getfield 18) 3 66 := ⟨by decide +kernel, rfl⟩
theorem dd_His_takeLatest_66 : decode (mbc mi_His_takeLatest) 66 = .ok (retI (mrt mi_His_takeLatest), 1) := by decide +kernel
theorem dd_Poo_keep_0 : Dc mi_Poo_keep 0 (.aload_n 0) 1 1 := ⟨by decide +kernel, rfl⟩
theorem dd_Poo_keep_1 : Dc mi_Poo_keep 1 (.getfield 19) 3 4 := ⟨by decide +kernel, rfl⟩
theorem dd_Poo_keep_4 : Dc mi_Poo_keep 4 (.aload_n 0) 1 5 := ⟨by decide +kernel, rfl⟩
theorem dd_Poo_keep_5 : Dc mi_Poo_keep 5 (.getfield 10) 3 8 := ⟨by decide +kernel, rfl⟩
theorem dd_Poo_keep_8 : Dc mi_Poo_keep 8 (.invokevirtual 40) 3 11 := ⟨by decide +kernel, rfl⟩
theorem dd_Poo_keep_11 : Dc mi_Poo_keep 11 (.aload_n 0) 1 12 := ⟨by decide +kernel, rfl⟩
theorem dd_Poo_keep_12 : Dc mi_Poo_keep 12 (.iconst 1) 1 13 := ⟨by decide +kernel, rfl⟩
theorem dd_Poo_keep_13 : Dc mi_Poo_keep 13 (.putfield 130) 3 16 := ⟨by decide +kernel, rfl⟩
theorem dd_Poo_keep_16 : Dc mi_Poo_keep 16 (.aload_n 0) 1 17 := ⟨by decide +kernel, rfl⟩
theorem dd_Poo_keep_17 : Dc mi_Poo_keep 17 (.getfield 10) 3 20 := ⟨by decide +kernel, rfl⟩
theorem dd_Poo_keep_20 : Dc mi_Poo_keep 20 (.invokevirtual 133) 3 23 := ⟨by decide +kernel, rfl⟩
theorem dd_Poo_keep_23 : decode (mbc mi_Poo_keep) 23 = .ok (retI (mrt mi_Poo_keep), 1) := by decide +kernel
theorem dd_Poo_restore_0 : Dc mi_Poo_restore 0 (.aload_n 0) 1 1 := ⟨by decide +kernel, rfl⟩
theorem dd_Poo_restore_1 : Dc mi_Poo_restore 1 (.getfield 130) 3 4 := ⟨by decide +kernel, rfl⟩
theorem dd_Poo_restore_4 : Db mi_Poo_restore 4 (.ifCond .ne 6) 6 7 10 := ⟨by decide +kernel, rfl, rfl⟩
theorem dd_Poo_restore_7 : Dc mi_Poo_restore 7 (.bipush (-5)) 2 9 := ⟨by decide +kernel, rfl⟩
theorem dd_Poo_restore_9 : decode (mbc mi_Poo_restore) 9 = .ok (retI (mrt mi_Poo_restore), 1) := by decide +kernel
theorem dd_Poo_restore_10 : Dc mi_Poo_restore 10 (.aload_n 0) 1 11 := ⟨by decide +kernel, rfl⟩
theorem dd_Poo_restore_11 : Dc mi_Poo_restore 11 (.getfield 16) 3 14 := ⟨by decide +kernel, rfl⟩
theorem dd_Poo_restore_14 : Dc mi_Poo_restore 14 (.aload_n 0) 1 15 := ⟨by decide +kernel, rfl⟩
theorem dd_Poo_restore_15 : Dc mi_Poo_restore 15 (.getfield 10) 3 18 := ⟨by decide +kernel, rfl⟩
theorem dd_Poo_restore_18 : Dc mi_Poo_restore 18 (.invokevirtual 40) 3 21 := ⟨by decide +kernel, rfl⟩
theorem dd_Poo_restore_21 : Dc mi_Poo_restore 21 (.aload_n 0) 1 22 := ⟨by decide +kernel, rfl⟩
theorem dd_Poo_restore_22 : Dc mi_Poo_restore 22 (.getfield 10) 3 25 := ⟨by decide +kernel, rfl⟩
theorem dd_Poo_restore_25 : Dc mi_Poo_restore 25 (.aload_n 0) 1 26 := ⟨by decide +kernel, rfl⟩
theorem dd_Poo_restore_26 : Dc mi_Poo_restore 26 (.getfield 19) 3 29 := ⟨by decide +kernel, rfl⟩
theorem dd_Poo_restore_29 : Dc mi_Poo_restore 29 (.invokevirtual 40) 3 32 := ⟨by decide +kernel, rfl⟩
theorem dd_Poo_restore_32 : Dc mi_Poo_restore 32 (.aload_n 0) 1 33 := ⟨by decide +kernel, rfl⟩
theorem dd_Poo_restore_33 : Dc mi_Poo_restore 33 (.aload_n 0) 1 34 := ⟨by decide +kernel, rfl⟩
theorem dd_Poo_restore_34 : Dc mi_Poo_restore 34 (.getfield 10) 3 37 := ⟨by decide +kernel, rfl⟩
theorem dd_Poo_restore_37 : Dc mi_Poo_restore 37 (.invokevirtual 133) 3 40 := ⟨by decide +kernel, rfl⟩
theorem dd_Poo_restore_40 : Dc mi_Poo_restore 40 (.invokevirtual 55) 3 43 := ⟨by decide +kernel, rfl⟩
theorem dd_Poo_restore_43 : decode (mbc mi_Poo_restore) 43 = .ok (retI (mrt mi_Poo_restore), 1) := by decide +kernel
theorem dd_Poo_block_0 : Dc mi_Poo_block 0 (.aload_n 0) 1 1 := ⟨by decide +kernel, rfl⟩
theorem dd_Poo_block_1 : Dc mi_Poo_block 1 (.getfield 10) 3 4 := ⟨by decide +kernel, rfl⟩
theorem dd_Poo_block_4 : Dc mi_Poo_block 4 (.iload_n 1) 1 5 := ⟨by decide +kernel, rfl⟩
theorem dd_Poo_block_5 : Dc mi_Poo_block 5 (.iload_n 2) 1 6 := ⟨by decide +kernel, rfl⟩
theorem dd_Poo_block_6 : Dc mi_Poo_block 6 (.invokevirtual 136) 3 9 := ⟨by decide +kernel, rfl⟩
theorem dd_Poo_block_9 : decode (mbc mi_Poo_block) 9 = .ok (retI (mrt mi_Poo_block), 1) := by decide +kernel
theorem dd_Poo_word_0 : Dc mi_Poo_word 0 (.aload_n 0) 1 1 := ⟨by decide +kernel, rfl⟩
theorem dd_Poo_word_1 : Dc mi_Poo_word 1 (.getfield 10) 3 4 := ⟨by decide +kernel, rfl⟩
theorem dd_Poo_word_4 : Dc mi_Poo_word 4 (.iload_n 1) 1 5 := ⟨by decide +kernel, rfl⟩
theorem dd_Poo_word_5 : Dc mi_Poo_word 5 (.iload_n 2) 1 6 := ⟨by decide +kernel, rfl⟩
theorem dd_Poo_word_6 : Dc mi_Poo_word 6 (.invokevirtual 139) 3 9 := ⟨by decide +kernel, rfl⟩
theorem dd_Poo_word_9 : decode (mbc mi_Poo_word) 9 = .ok (retI (mrt mi_Poo_word), 1) := by decide +kernel
theorem dd_Poo_task_0 : Dc mi_Poo_task 0 (.aload_n 0) 1 1 := ⟨by decide +kernel, rfl⟩
theorem dd_Poo_task_1 : Dc mi_Poo_task 1 (.getfield 10) 3 4 := ⟨by decide +kernel, rfl⟩
theorem dd_Poo_task_4 : Dc mi_Poo_task 4 (.iload_n 1) 1 5 := ⟨by decide +kernel, rfl⟩
theorem dd_Poo_task_5 : Dc mi_Poo_task 5 (.iload_n 2) 1 6 := ⟨by decide +kernel, rfl⟩
theorem dd_Poo_task_6 : Dc mi_Poo_task 6 (.invokevirtual 142) 3 9 := ⟨by decide +kernel, rfl⟩
theorem dd_Poo_task_9 : decode (mbc mi_Poo_task) 9 = .ok (retI (mrt mi_Poo_task), 1) := by decide +kernel
theorem dd_Poo_reason_0 : Dc mi_Poo_reason 0 (.aload_n 0) 1 1 := ⟨by decide +kernel, rfl⟩
theorem dd_Poo_reason_1 : Dc mi_Poo_reason 1 (.getfield 10) 3 4 := ⟨by decide +kernel, rfl⟩
theorem dd_Poo_reason_4 : Dc mi_Poo_reason 4 (.iload_n 1) 1 5 := ⟨by decide +kernel, rfl⟩
theorem dd_Poo_reason_5 : Dc mi_Poo_reason 5 (.iload_n 2) 1 6 := ⟨by decide +kernel, rfl⟩
theorem dd_Poo_reason_6 : Dc mi_Poo_reason 6 (.invokevirtual 48) 3 9 := ⟨by decide +kernel, rfl⟩
theorem dd_Poo_reason_9 : decode (mbc mi_Poo_reason) 9 = .ok (retI (mrt mi_Poo_reason), 1) := by decide +kernel
theorem dd_Poo_greatest_0 : Dc mi_Poo_greatest 0 (.aload_n 0) 1 1 := ⟨by decide +kernel, rfl⟩
theorem dd_Poo_greatest_1 : Dc mi_Poo_greatest 1 (.getfield 10) 3 4 := ⟨by decide +kernel, rfl⟩
theorem dd_Poo_greatest_4 : Dc mi_Poo_greatest 4 (.iload_n 1) 1 5 := ⟨by decide +kernel, rfl⟩
theorem dd_Poo_greatest_5 : Dc mi_Poo_greatest 5 (.invokevirtual 145) 3 8 := ⟨by decide +kernel, rfl⟩
theorem dd_Poo_greatest_8 : decode (mbc mi_Poo_greatest) 8 = .ok (retI (mrt mi_Poo_greatest), 1) := by decide +kernel
theorem dd_Poo_leak_0 : Dc mi_Poo_leak 0 (.aload_n 0) 1 1 := ⟨by decide +kernel, rfl⟩
theorem dd_Poo_leak_1 : Dc mi_Poo_leak 1 (.getfield 10) 3 4 := ⟨by decide +kernel, rfl⟩
theorem dd_Poo_leak_4 : Dc mi_Poo_leak 4 (.iload_n 1) 1 5 := ⟨by decide +kernel, rfl⟩
theorem dd_Poo_leak_5 : Dc mi_Poo_leak 5 (.invokevirtual 148) 3 8 := ⟨by decide +kernel, rfl⟩
theorem dd_Poo_leak_8 : decode (mbc mi_Poo_leak) 8 = .ok (retI (mrt mi_Poo_leak), 1) := by decide +kernel
theorem dd_Poo_refused_0 : Dc mi_Poo_refused 0 (.iload_n 1) 1 1 := ⟨by decide +kernel, rfl⟩
theorem dd_Poo_refused_1 : Dc mi_Poo_refused 1 (.iconst 1) 1 2 := ⟨by decide +kernel, rfl⟩
theorem dd_Poo_refused_2 : Db mi_Poo_refused 2 (.if_icmp .lt 8) 8 5 10 := ⟨by decide +kernel, rfl, rfl⟩
theorem dd_Poo_refused_5 : Dc mi_Poo_refused 5 (.iload_n 1) 1 6 := ⟨by decide +kernel, rfl⟩
theorem dd_Poo_refused_6 : Dc mi_Poo_refused 6 (.iconst 3) 1 7 := ⟨by decide +kernel, rfl⟩
theorem dd_Poo_refused_7 : Db mi_Poo_refused 7 (.if_icmp .le 6) 6 10 13 := ⟨by decide +kernel, rfl, rfl⟩
theorem dd_Poo_refused_10 : Dc mi_Poo_refused 10 (.bipush (-2)) 2 12 := ⟨by decide +kernel, rfl⟩
theorem dd_Poo_refused_12 : decode (mbc mi_Poo_refused) 12 = .ok (retI (mrt mi_Poo_refused), 1) := by decide +kernel
theorem dd_Poo_refused_13 : Dc mi_Poo_refused 13 (.aload_n 0) 1 14 := ⟨by decide +kernel, rfl⟩
theorem dd_Poo_refused_14 : Dc mi_Poo_refused 14 (.getfield 36) 3 17 := ⟨by decide +kernel, rfl⟩
theorem dd_Poo_refused_17 : Dc mi_Poo_refused 17 (.iload_n 1) 1 18 := ⟨by decide +kernel, rfl⟩
theorem dd_Poo_refused_18 : Dc mi_Poo_refused 18 (.iconst 1) 1 19 := ⟨by decide +kernel, rfl⟩
theorem dd_Poo_refused_19 : Dc mi_Poo_refused 19 (.isub) 1 20 := ⟨by decide +kernel, rfl⟩
theorem dd_Poo_refused_20 : Dc mi_Poo_refused 20 (.iaload) 1 21 := ⟨by decide +kernel, rfl⟩
theorem dd_Poo_refused_21 : decode (mbc mi_Poo_refused) 21 = .ok (retI (mrt mi_Poo_refused), 1) := by decide +kernel
theorem dd_Poo_size_0 : Dc mi_Poo_size 0 (.aload_n 0) 1 1 := ⟨by decide +kernel, rfl⟩
theorem dd_Poo_size_1 : Dc mi_Poo_size 1 (.getfield 10) 3 4 := ⟨by decide +kernel, rfl⟩
theorem dd_Poo_size_4 : Dc mi_Poo_size 4 (.iload_n 1) 1 5 := ⟨by decide +kernel, rfl⟩
theorem dd_Poo_size_5 : Dc mi_Poo_size 5 (.iload_n 2) 1 6 := ⟨by decide +kernel, rfl⟩
theorem dd_Poo_size_6 : Dc mi_Poo_size 6 (.invokevirtual 151) 3 9 := ⟨by decide +kernel, rfl⟩
theorem dd_Poo_size_9 : decode (mbc mi_Poo_size) 9 = .ok (retI (mrt mi_Poo_size), 1) := by decide +kernel
theorem dd_Poo_count_0 : Dc mi_Poo_count 0 (.iload_n 1) 1 1 := ⟨by decide +kernel, rfl⟩
theorem dd_Poo_count_1 : decode (mbc mi_Poo_count) 1 = .ok (.lookupswitch 43 #[(10, 27), (11, 35)], 27) := by decide +kernel
theorem dd_Poo_count_28 : Dc mi_Poo_count 28 (.aload_n 0) 1 29 := ⟨by decide +kernel, rfl⟩
theorem dd_Poo_count_29 : Dc mi_Poo_count 29 (.getfield 25) 3 32 := ⟨by decide +kernel, rfl⟩
theorem dd_Poo_count_32 : Dc mi_Poo_count 32 (.invokevirtual 154) 3 35 := ⟨by decide +kernel, rfl⟩
theorem dd_Poo_count_35 : decode (mbc mi_Poo_count) 35 = .ok (retI (mrt mi_Poo_count), 1) := by decide +kernel
theorem dd_Poo_count_36 : Dc mi_Poo_count 36 (.aload_n 0) 1 37 := ⟨by decide +kernel, rfl⟩
theorem dd_Poo_count_37 : Dc mi_Poo_count 37 (.getfield 32) 3 40 := ⟨by decide +kernel, rfl⟩
theorem dd_Poo_count_40 : Dc mi_Poo_count 40 (.invokevirtual 157) 3 43 := ⟨by decide +kernel, rfl⟩
theorem dd_Poo_count_43 : decode (mbc mi_Poo_count) 43 = .ok (retI (mrt mi_Poo_count), 1) := by decide +kernel
theorem dd_Poo_count_44 : Dc mi_Poo_count 44 (.aload_n 0) 1 45 := ⟨by decide +kernel, rfl⟩
theorem dd_Poo_count_45 : Dc mi_Poo_count 45 (.getfield 10) 3 48 := ⟨by decide +kernel, rfl⟩
theorem dd_Poo_count_48 : Dc mi_Poo_count 48 (.iload_n 1) 1 49 := ⟨by decide +kernel, rfl⟩
theorem dd_Poo_count_49 : Dc mi_Poo_count 49 (.invokevirtual 158) 3 52 := ⟨by decide +kernel, rfl⟩
theorem dd_Poo_count_52 : decode (mbc mi_Poo_count) 52 = .ok (retI (mrt mi_Poo_count), 1) := by decide +kernel
theorem dd_His_length_0 : Dc mi_His_length 0 (.aload_n 0) 1 1 := ⟨by decide +kernel, rfl⟩
theorem dd_His_length_1 : Dc mi_His_length 1 (.getfield 18) 3 4 := ⟨by decide +kernel, rfl⟩
theorem dd_His_length_4 : decode (mbc mi_His_length) 4 = .ok (retI (mrt mi_His_length), 1) := by decide +kernel
theorem dd_Txt_length_0 : Dc mi_Txt_length 0 (.aload_n 0) 1 1 := ⟨by decide +kernel, rfl⟩
theorem dd_Txt_length_1 : Dc mi_Txt_length 1 (.getfield 22) 3 4 := ⟨by decide +kernel, rfl⟩
theorem dd_Txt_length_4 : decode (mbc mi_Txt_length) 4 = .ok (retI (mrt mi_Txt_length), 1) := by decide +kernel
end
section
/-! decode rows, printed by wip/whole/gen_dec.py -/
theorem dd_Sta_init_0 : Dc mi_Sta_init 0 (.aload_n 0) 1 1 := ⟨by decide +kernel, rfl⟩
theorem dd_Sta_init_1 : Dc mi_Sta_init 1 (.invokespecial 3) 3 4 := ⟨by decide +kernel, rfl⟩
theorem dd_Sta_init_4 : Dc mi_Sta_init 4 (.aload_n 0) 1 5 := ⟨by decide +kernel, rfl⟩
theorem dd_Sta_init_5 : Dc mi_Sta_init 5 (.bipush 16) 2 7 := ⟨by decide +kernel, rfl⟩
theorem dd_Sta_init_7 : Dc mi_Sta_init 7 (.anewarray 9) 3 10 := ⟨by decide +kernel, rfl⟩
theorem dd_Sta_init_10 : Dc mi_Sta_init 10 (.putfield 11) 3 13 := ⟨by decide +kernel, rfl⟩
theorem dd_Sta_init_13 : Dc mi_Sta_init 13 (.iconst 0) 1 14 := ⟨by decide +kernel, rfl⟩
theorem dd_Sta_init_14 : Dc mi_Sta_init 14 (.istore_n 1) 1 15 := ⟨by decide +kernel, rfl⟩
theorem dd_Sta_init_15 : Dc mi_Sta_init 15 (.iload_n 1) 1 16 := ⟨by decide +kernel, rfl⟩
theorem dd_Sta_init_16 : Dc mi_Sta_init 16 (.bipush 16) 2 18 := ⟨by decide +kernel, rfl⟩
theorem dd_Sta_init_18 : Db mi_Sta_init 18 (.if_icmp .ge 39) 39 21 57 := ⟨by decide +kernel, rfl, rfl⟩
theorem dd_Sta_init_21 : Dc mi_Sta_init 21 (.iload_n 1) 1 22 := ⟨by decide +kernel, rfl⟩
theorem dd_Sta_init_22 : Dc mi_Sta_init 22 (.iconst 4) 1 23 := ⟨by decide +kernel, rfl⟩
theorem dd_Sta_init_23 : Dc mi_Sta_init 23 (.imul) 1 24 := ⟨by decide +kernel, rfl⟩
theorem dd_Sta_init_24 : Dc mi_Sta_init 24 (.istore_n 2) 1 25 := ⟨by decide +kernel, rfl⟩
theorem dd_Sta_init_25 : Dc mi_Sta_init 25 (.aload_n 0) 1 26 := ⟨by decide +kernel, rfl⟩
theorem dd_Sta_init_26 : Dc mi_Sta_init 26 (.getfield 11) 3 29 := ⟨by decide +kernel, rfl⟩
theorem dd_Sta_init_29 : Dc mi_Sta_init 29 (.iload_n 1) 1 30 := ⟨by decide +kernel, rfl⟩
theorem dd_Sta_init_30 : Dc mi_Sta_init 30 (.new 9) 3 33 := ⟨by decide +kernel, rfl⟩
theorem dd_Sta_init_33 : Dc mi_Sta_init 33 (.dup) 1 34 := ⟨by decide +kernel, rfl⟩
theorem dd_Sta_init_34 : Dc mi_Sta_init 34 (.iload_n 2) 1 35 := ⟨by decide +kernel, rfl⟩
theorem dd_Sta_init_35 : Dc mi_Sta_init 35 (.iload_n 2) 1 36 := ⟨by decide +kernel, rfl⟩
theorem dd_Sta_init_36 : Dc mi_Sta_init 36 (.bipush 16) 2 38 := ⟨by decide +kernel, rfl⟩
theorem dd_Sta_init_38 : Dc mi_Sta_init 38 (.irem) 1 39 := ⟨by decide +kernel, rfl⟩
theorem dd_Sta_init_39 : Db mi_Sta_init 39 (.ifCond .ne 7) 7 42 46 := ⟨by decide +kernel, rfl, rfl⟩
theorem dd_Sta_init_42 : Dc mi_Sta_init 42 (.iconst 2) 1 43 := ⟨by decide +kernel, rfl⟩
theorem dd_Sta_init_43 : Db mi_Sta_init 43 (.goto 4) 4 46 47 := ⟨by decide +kernel, rfl, rfl⟩
theorem dd_Sta_init_46 : Dc mi_Sta_init 46 (.iconst (-1)) 1 47 := ⟨by decide +kernel, rfl⟩
theorem dd_Sta_init_47 : Dc mi_Sta_init 47 (.invokespecial 17) 3 50 := ⟨by decide +kernel, rfl⟩
theorem dd_Sta_init_50 : Dc mi_Sta_init 50 (.aastore) 1 51 := ⟨by decide +kernel, rfl⟩
theorem dd_Sta_init_51 : Dc mi_Sta_init 51 (.iinc 1 1) 3 54 := ⟨by decide +kernel, rfl⟩
theorem dd_Sta_init_54 : Db mi_Sta_init 54 (.goto (-39)) (-39) 57 15 := ⟨by decide +kernel, rfl, rfl⟩
theorem dd_Sta_init_57 : Dc mi_Sta_init 57 (.aload_n 0) 1 58 := ⟨by decide +kernel, rfl⟩
theorem dd_Sta_init_58 : Dc mi_Sta_init 58 (.bipush 64) 2 60 := ⟨by decide +kernel, rfl⟩
theorem dd_Sta_init_60 : Dc mi_Sta_init 60 (.newarray .int) 2 62 := ⟨by decide +kernel, rfl⟩
theorem dd_Sta_init_62 : Dc mi_Sta_init 62 (.putfield 20) 3 65 := ⟨by decide +kernel, rfl⟩
theorem dd_Sta_init_65 : Dc mi_Sta_init 65 (.aload_n 0) 1 66 := ⟨by decide +kernel, rfl⟩
theorem dd_Sta_init_66 : Dc mi_Sta_init 66 (.bipush 6) 2 68 := ⟨by decide +kernel, rfl⟩
theorem dd_Sta_init_68 : Dc mi_Sta_init 68 (.anewarray 24) 3 71 := ⟨by decide +kernel, rfl⟩
theorem dd_Sta_init_71 : Dc mi_Sta_init 71 (.putfield 26) 3 74 := ⟨by decide +kernel, rfl⟩
theorem dd_Sta_init_74 : Dc mi_Sta_init 74 (.iconst 0) 1 75 := ⟨by decide +kernel, rfl⟩
theorem dd_Sta_init_75 : Dc mi_Sta_init 75 (.istore_n 1) 1 76 := ⟨by decide +kernel, rfl⟩
theorem dd_Sta_init_76 : Dc mi_Sta_init 76 (.iload_n 1) 1 77 := ⟨by decide +kernel, rfl⟩
theorem dd_Sta_init_77 : Dc mi_Sta_init 77 (.bipush 6) 2 79 := ⟨by decide +kernel, rfl⟩
theorem dd_Sta_init_79 : Db mi_Sta_init 79 (.if_icmp .ge 22) 22 82 101 := ⟨by decide +kernel, rfl, rfl⟩
theorem dd_Sta_init_82 : Dc mi_Sta_init 82 (.aload_n 0) 1 83 := ⟨by decide +kernel, rfl⟩
theorem dd_Sta_init_83 : Dc mi_Sta_init 83 (.getfield 26) 3 86 := ⟨by decide +kernel, rfl⟩
theorem dd_Sta_init_86 : Dc mi_Sta_init 86 (.iload_n 1) 1 87 := ⟨by decide +kernel, rfl⟩
theorem dd_Sta_init_87 : Dc mi_Sta_init 87 (.new 24) 3 90 := ⟨by decide +kernel, rfl⟩
theorem dd_Sta_init_90 : Dc mi_Sta_init 90 (.dup) 1 91 := ⟨by decide +kernel, rfl⟩
theorem dd_Sta_init_91 : Dc mi_Sta_init 91 (.invokespecial 30) 3 94 := ⟨by decide +kernel, rfl⟩
theorem dd_Sta_init_94 : Dc mi_Sta_init 94 (.aastore) 1 95 := ⟨by decide +kernel, rfl⟩
theorem dd_Sta_init_95 : Dc mi_Sta_init 95 (.iinc 1 1) 3 98 := ⟨by decide +kernel, rfl⟩
theorem dd_Sta_init_98 : Db mi_Sta_init 98 (.goto (-22)) (-22) 101 76 := ⟨by decide +kernel, rfl, rfl⟩
theorem dd_Sta_init_101 : Dc mi_Sta_init 101 (.aload_n 0) 1 102 := ⟨by decide +kernel, rfl⟩
theorem dd_Sta_init_102 : Dc mi_Sta_init 102 (.bipush 50) 2 104 := ⟨by decide +kernel, rfl⟩
theorem dd_Sta_init_104 : Dc mi_Sta_init 104 (.putfield 31) 3 107 := ⟨by decide +kernel, rfl⟩
theorem dd_Sta_init_107 : decode (mbc mi_Sta_init) 107 = .ok (retI (mrt mi_Sta_init), 1) := by decide +kernel
theorem dd_Sta_copyFrom_0 : Dc mi_Sta_copyFrom 0 (.iconst 0) 1 1 := ⟨by decide +kernel, rfl⟩
theorem dd_Sta_copyFrom_1 : Dc mi_Sta_copyFrom 1 (.istore_n 2) 1 2 := ⟨by decide +kernel, rfl⟩
theorem dd_Sta_copyFrom_2 : Dc mi_Sta_copyFrom 2 (.iload_n 2) 1 3 := ⟨by decide +kernel, rfl⟩
theorem dd_Sta_copyFrom_3 : Dc mi_Sta_copyFrom 3 (.bipush 16) 2 5 := ⟨by decide +kernel, rfl⟩
theorem dd_Sta_copyFrom_5 : Db mi_Sta_copyFrom 5 (.if_icmp .ge 24) 24 8 29 := ⟨by decide +kernel, rfl, rfl⟩
theorem dd_Sta_copyFrom_8 : Dc mi_Sta_copyFrom 8 (.aload_n 0) 1 9 := ⟨by decide +kernel, rfl⟩
theorem dd_Sta_copyFrom_9 : Dc mi_Sta_copyFrom 9 (.getfield 11) 3 12 := ⟨by decide +kernel, rfl⟩
theorem dd_Sta_copyFrom_12 : Dc mi_Sta_copyFrom 12 (.iload_n 2) 1 13 := ⟨by decide +kernel, rfl⟩
theorem dd_Sta_copyFrom_13 : Dc mi_Sta_copyFrom 13 (.aaload) 1 14 := ⟨by decide +kernel, rfl⟩
theorem dd_Sta_copyFrom_14 : Dc mi_Sta_copyFrom 14 (.aload_n 1) 1 15 := ⟨by decide +kernel, rfl⟩
theorem dd_Sta_copyFrom_15 : Dc mi_Sta_copyFrom 15 (.getfield 11) 3 18 := ⟨by decide +kernel, rfl⟩
theorem dd_Sta_copyFrom_18 : Dc mi_Sta_copyFrom 18 (.iload_n 2) 1 19 := ⟨by decide +kernel, rfl⟩
theorem dd_Sta_copyFrom_19 : Dc mi_Sta_copyFrom 19 (.aaload) 1 20 := ⟨by decide +kernel, rfl⟩
theorem dd_Sta_copyFrom_20 : Dc mi_Sta_copyFrom 20 (.invokevirtual 35) 3 23 := ⟨by decide +kernel, rfl⟩
theorem dd_Sta_copyFrom_23 : Dc mi_Sta_copyFrom 23 (.iinc 2 1) 3 26 := ⟨by decide +kernel, rfl⟩
theorem dd_Sta_copyFrom_26 : Db mi_Sta_copyFrom 26 (.goto (-24)) (-24) 29 2 := ⟨by decide +kernel, rfl, rfl⟩
theorem dd_Sta_copyFrom_29 : Dc mi_Sta_copyFrom 29 (.aload_n 1) 1 30 := ⟨by decide +kernel, rfl⟩
theorem dd_Sta_copyFrom_30 : Dc mi_Sta_copyFrom 30 (.getfield 20) 3 33 := ⟨by decide +kernel, rfl⟩
theorem dd_Sta_copyFrom_33 : Dc mi_Sta_copyFrom 33 (.iconst 0) 1 34 := ⟨by decide +kernel, rfl⟩
theorem dd_Sta_copyFrom_34 : Dc mi_Sta_copyFrom 34 (.aload_n 0) 1 35 := ⟨by decide +kernel, rfl⟩
theorem dd_Sta_copyFrom_35 : Dc mi_Sta_copyFrom 35 (.getfield 20) 3 38 := ⟨by decide +kernel, rfl⟩
theorem dd_Sta_copyFrom_38 : Dc mi_Sta_copyFrom 38 (.iconst 0) 1 39 := ⟨by decide +kernel, rfl⟩
theorem dd_Sta_copyFrom_39 : Dc mi_Sta_copyFrom 39 (.bipush 64) 2 41 := ⟨by decide +kernel, rfl⟩
theorem dd_Sta_copyFrom_41 : Dc mi_Sta_copyFrom 41 (.invokestatic 39) 3 44 := ⟨by decide +kernel, rfl⟩
theorem dd_Sta_copyFrom_44 : Dc mi_Sta_copyFrom 44 (.iconst 0) 1 45 := ⟨by decide +kernel, rfl⟩
theorem dd_Sta_copyFrom_45 : Dc mi_Sta_copyFrom 45 (.istore_n 2) 1 46 := ⟨by decide +kernel, rfl⟩
theorem dd_Sta_copyFrom_46 : Dc mi_Sta_copyFrom 46 (.iload_n 2) 1 47 := ⟨by decide +kernel, rfl⟩
theorem dd_Sta_copyFrom_47 : Dc mi_Sta_copyFrom 47 (.bipush 6) 2 49 := ⟨by decide +kernel, rfl⟩
theorem dd_Sta_copyFrom_49 : Db mi_Sta_copyFrom 49 (.if_icmp .ge 24) 24 52 73 := ⟨by decide +kernel, rfl, rfl⟩
theorem dd_Sta_copyFrom_52 : Dc mi_Sta_copyFrom 52 (.aload_n 0) 1 53 := ⟨by decide +kernel, rfl⟩
theorem dd_Sta_copyFrom_53 : Dc mi_Sta_copyFrom 53 (.getfield 26) 3 56 := ⟨by decide +kernel, rfl⟩
theorem dd_Sta_copyFrom_56 : Dc mi_Sta_copyFrom 56 (.iload_n 2) 1 57 := ⟨by decide +kernel, rfl⟩
theorem dd_Sta_copyFrom_57 : Dc mi_Sta_copyFrom 57 (.aaload) 1 58 := ⟨by decide +kernel, rfl⟩
theorem dd_Sta_copyFrom_58 : Dc mi_Sta_copyFrom 58 (.aload_n 1) 1 59 := ⟨by decide +kernel, rfl⟩
theorem dd_Sta_copyFrom_59 : Dc mi_Sta_copyFrom 59 (.getfield 26) 3 62 := ⟨by decide +kernel, rfl⟩
theorem dd_Sta_copyFrom_62 : Dc mi_Sta_copyFrom 62 (.iload_n 2) 1 63 := ⟨by decide +kernel, rfl⟩
theorem dd_Sta_copyFrom_63 : Dc mi_Sta_copyFrom 63 (.aaload) 1 64 := ⟨by decide +kernel, rfl⟩
theorem dd_Sta_copyFrom_64 : Dc mi_Sta_copyFrom 64 (.invokevirtual 45) 3 67 := ⟨by decide +kernel, rfl⟩
theorem dd_Sta_copyFrom_67 : Dc mi_Sta_copyFrom 67 (.iinc 2 1) 3 70 := ⟨by decide +kernel, rfl⟩
theorem dd_Sta_copyFrom_70 : Db mi_Sta_copyFrom 70 (.goto (-24)) (-24) 73 46 := ⟨by decide +kernel, rfl, rfl⟩
theorem dd_Sta_copyFrom_73 : Dc mi_Sta_copyFrom 73 (.aload_n 0) 1 74 := ⟨by decide +kernel, rfl⟩
theorem dd_Sta_copyFrom_74 : Dc mi_Sta_copyFrom 74 (.aload_n 1) 1 75 := ⟨by decide +kernel, rfl⟩
theorem dd_Sta_copyFrom_75 : Dc mi_Sta_copyFrom 75 (.getfield 48) 3 78 := ⟨by decide +kernel, rfl⟩
theorem dd_Sta_copyFrom_78 : Dc mi_Sta_copyFrom 78 (.putfield 48) 3 81 := ⟨by decide +kernel, rfl⟩
theorem dd_Sta_copyFrom_81 : Dc mi_Sta_copyFrom 81 (.aload_n 0) 1 82 := ⟨by decide +kernel, rfl⟩
theorem dd_Sta_copyFrom_82 : Dc mi_Sta_copyFrom 82 (.aload_n 1) 1 83 := ⟨by decide +kernel, rfl⟩
theorem dd_Sta_copyFrom_83 : Dc mi_Sta_copyFrom 83 (.getfield 31) 3 86 := ⟨by decide +kernel, rfl⟩
theorem dd_Sta_copyFrom_86 : Dc mi_Sta_copyFrom 86 (.putfield 31) 3 89 := ⟨by decide +kernel, rfl⟩
theorem dd_Sta_copyFrom_89 : Dc mi_Sta_copyFrom 89 (.aload_n 0) 1 90 := ⟨by decide +kernel, rfl⟩
theorem dd_Sta_copyFrom_90 : Dc mi_Sta_copyFrom 90 (.aload_n 1) 1 91 := ⟨by decide +kernel, rfl⟩
theorem dd_Sta_copyFrom_91 : Dc mi_Sta_copyFrom 91 (.getfield 51) 3 94 := ⟨by decide +kernel, rfl⟩
theorem dd_Sta_copyFrom_94 : Dc mi_Sta_copyFrom 94 (.putfield 51) 3 97 := ⟨by decide +kernel, rfl⟩
theorem dd_Sta_copyFrom_97 : Dc mi_Sta_copyFrom 97 (.aload_n 0) 1 98 := ⟨by decide +kernel, rfl⟩
theorem dd_Sta_copyFrom_98 : Dc mi_Sta_copyFrom 98 (.aload_n 1) 1 99 := ⟨by decide +kernel, rfl⟩
theorem dd_Sta_copyFrom_99 : Dc mi_Sta_copyFrom 99 (.getfield 54) 3 102 := ⟨by decide +kernel, rfl⟩
theorem dd_Sta_copyFrom_102 : Dc mi_Sta_copyFrom 102 (.putfield 54) 3 105 := ⟨by decide +kernel, rfl⟩
theorem dd_Sta_copyFrom_105 : Dc mi_Sta_copyFrom 105 (.aload_n 0) 1 106 := ⟨by decide +kernel, rfl⟩
theorem dd_Sta_copyFrom_106 : Dc mi_Sta_copyFrom 106 (.aload_n 1) 1 107 := ⟨by decide +kernel, rfl⟩
theorem dd_Sta_copyFrom_107 : Dc mi_Sta_copyFrom 107 (.getfield 57) 3 110 := ⟨by decide +kernel, rfl⟩
theorem dd_Sta_copyFrom_110 : Dc mi_Sta_copyFrom 110 (.putfield 57) 3 113 := ⟨by decide +kernel, rfl⟩
theorem dd_Sta_copyFrom_113 : Dc mi_Sta_copyFrom 113 (.aload_n 0) 1 114 := ⟨by decide +kernel, rfl⟩
theorem dd_Sta_copyFrom_114 : Dc mi_Sta_copyFrom 114 (.aload_n 1) 1 115 := ⟨by decide +kernel, rfl⟩
theorem dd_Sta_copyFrom_115 : Dc mi_Sta_copyFrom 115 (.getfield 60) 3 118 := ⟨by decide +kernel, rfl⟩
theorem dd_Sta_copyFrom_118 : Dc mi_Sta_copyFrom 118 (.putfield 60) 3 121 := ⟨by decide +kernel, rfl⟩
theorem dd_Sta_copyFrom_121 : decode (mbc mi_Sta_copyFrom) 121 = .ok (retI (mrt mi_Sta_copyFrom), 1) := by decide +kernel
theorem dd_Sta_grant_0 : Dc mi_Sta_grant 0 (.aload_n 0) 1 1 := ⟨by decide +kernel, rfl⟩
theorem dd_Sta_grant_1 : Dc mi_Sta_grant 1 (.iload_n 1) 1 2 := ⟨by decide +kernel, rfl⟩
theorem dd_Sta_grant_2 : Dc mi_Sta_grant 2 (.iload_n 2) 1 3 := ⟨by decide +kernel, rfl⟩
theorem dd_Sta_grant_3 : Dc mi_Sta_grant 3 (.invokevirtual 63) 3 6 := ⟨by decide +kernel, rfl⟩
theorem dd_Sta_grant_6 : Dc mi_Sta_grant 6 (.istore_n 3) 1 7 := ⟨by decide +kernel, rfl⟩
theorem dd_Sta_grant_7 : Dc mi_Sta_grant 7 (.iload_n 3) 1 8 := ⟨by decide +kernel, rfl⟩
theorem dd_Sta_grant_8 : Db mi_Sta_grant 8 (.ifCond .ge 5) 5 11 13 := ⟨by decide +kernel, rfl, rfl⟩
theorem dd_Sta_grant_11 : Dc mi_Sta_grant 11 (.iload_n 3) 1 12 := ⟨by decide +kernel, rfl⟩
theorem dd_Sta_grant_12 : decode (mbc mi_Sta_grant) 12 = .ok (retI (mrt mi_Sta_grant), 1) := by decide +kernel
theorem dd_Sta_grant_13 : Dc mi_Sta_grant 13 (.aload_n 0) 1 14 := ⟨by decide +kernel, rfl⟩
theorem dd_Sta_grant_14 : Dc mi_Sta_grant 14 (.getfield 51) 3 17 := ⟨by decide +kernel, rfl⟩
theorem dd_Sta_grant_17 : Dc mi_Sta_grant 17 (.sipush 300) 3 20 := ⟨by decide +kernel, rfl⟩
theorem dd_Sta_grant_20 : Db mi_Sta_grant 20 (.if_icmp .lt 6) 6 23 26 := ⟨by decide +kernel, rfl, rfl⟩
theorem dd_Sta_grant_23 : Dc mi_Sta_grant 23 (.bipush (-3)) 2 25 := ⟨by decide +kernel, rfl⟩
theorem dd_Sta_grant_25 : decode (mbc mi_Sta_grant) 25 = .ok (retI (mrt mi_Sta_grant), 1) := by decide +kernel
theorem dd_Sta_grant_26 : Dc mi_Sta_grant 26 (.iload_n 3) 1 27 := ⟨by decide +kernel, rfl⟩
theorem dd_Sta_grant_27 : Db mi_Sta_grant 27 (.ifCond .ne 14) 14 30 41 := ⟨by decide +kernel, rfl, rfl⟩
theorem dd_Sta_grant_30 : Dc mi_Sta_grant 30 (.aload_n 0) 1 31 := ⟨by decide +kernel, rfl⟩
theorem dd_Sta_grant_31 : Dc mi_Sta_grant 31 (.iload_n 2) 1 32 := ⟨by decide +kernel, rfl⟩
theorem dd_Sta_grant_32 : Dc mi_Sta_grant 32 (.invokestatic 67) 3 35 := ⟨by decide +kernel, rfl⟩
theorem dd_Sta_grant_35 : Dc mi_Sta_grant 35 (.invokevirtual 71) 3 38 := ⟨by decide +kernel, rfl⟩
theorem dd_Sta_grant_38 : Db mi_Sta_grant 38 (.goto 4) 4 41 42 := ⟨by decide +kernel, rfl, rfl⟩
theorem dd_Sta_grant_41 : Dc mi_Sta_grant 41 (.aconst_null) 1 42 := ⟨by decide +kernel, rfl⟩
theorem dd_Sta_grant_42 : Dc mi_Sta_grant 42 (.astore 4) 2 44 := ⟨by decide +kernel, rfl⟩
theorem dd_Sta_grant_44 : Dc mi_Sta_grant 44 (.aload 4) 2 46 := ⟨by decide +kernel, rfl⟩
theorem dd_Sta_grant_46 : Db mi_Sta_grant 46 (.ifnonnull 6) 6 49 52 := ⟨by decide +kernel, rfl, rfl⟩
theorem dd_Sta_grant_49 : Dc mi_Sta_grant 49 (.bipush (-6)) 2 51 := ⟨by decide +kernel, rfl⟩
theorem dd_Sta_grant_51 : decode (mbc mi_Sta_grant) 51 = .ok (retI (mrt mi_Sta_grant), 1) := by decide +kernel
theorem dd_Sta_grant_52 : Dc mi_Sta_grant 52 (.aload 4) 2 54 := ⟨by decide +kernel, rfl⟩
theorem dd_Sta_grant_54 : Dc mi_Sta_grant 54 (.iload_n 1) 1 55 := ⟨by decide +kernel, rfl⟩
theorem dd_Sta_grant_55 : Dc mi_Sta_grant 55 (.putfield 75) 3 58 := ⟨by decide +kernel, rfl⟩
theorem dd_Sta_grant_58 : Dc mi_Sta_grant 58 (.aload 4) 2 60 := ⟨by decide +kernel, rfl⟩
theorem dd_Sta_grant_60 : Dc mi_Sta_grant 60 (.aload_n 0) 1 61 := ⟨by decide +kernel, rfl⟩
theorem dd_Sta_grant_61 : Dc mi_Sta_grant 61 (.getfield 51) 3 64 := ⟨by decide +kernel, rfl⟩
theorem dd_Sta_grant_64 : Dc mi_Sta_grant 64 (.putfield 78) 3 67 := ⟨by decide +kernel, rfl⟩
theorem dd_Sta_grant_67 : Dc mi_Sta_grant 67 (.aload 4) 2 69 := ⟨by decide +kernel, rfl⟩
theorem dd_Sta_grant_69 : Dc mi_Sta_grant 69 (.iload_n 2) 1 70 := ⟨by decide +kernel, rfl⟩
theorem dd_Sta_grant_70 : Dc mi_Sta_grant 70 (.putfield 81) 3 73 := ⟨by decide +kernel, rfl⟩
theorem dd_Sta_grant_73 : Dc mi_Sta_grant 73 (.aload 4) 2 75 := ⟨by decide +kernel, rfl⟩
theorem dd_Sta_grant_75 : Dc mi_Sta_grant 75 (.aload_n 0) 1 76 := ⟨by decide +kernel, rfl⟩
theorem dd_Sta_grant_76 : Dc mi_Sta_grant 76 (.getfield 48) 3 79 := ⟨by decide +kernel, rfl⟩
theorem dd_Sta_grant_79 : Dc mi_Sta_grant 79 (.putfield 84) 3 82 := ⟨by decide +kernel, rfl⟩
theorem dd_Sta_grant_82 : Dc mi_Sta_grant 82 (.aload_n 0) 1 83 := ⟨by decide +kernel, rfl⟩
theorem dd_Sta_grant_83 : Dc mi_Sta_grant 83 (.dup) 1 84 := ⟨by decide +kernel, rfl⟩
theorem dd_Sta_grant_84 : Dc mi_Sta_grant 84 (.getfield 51) 3 87 := ⟨by decide +kernel, rfl⟩
theorem dd_Sta_grant_87 : Dc mi_Sta_grant 87 (.iconst 1) 1 88 := ⟨by decide +kernel, rfl⟩
theorem dd_Sta_grant_88 : Dc mi_Sta_grant 88 (.iadd) 1 89 := ⟨by decide +kernel, rfl⟩
theorem dd_Sta_grant_89 : Dc mi_Sta_grant 89 (.putfield 51) 3 92 := ⟨by decide +kernel, rfl⟩
theorem dd_Sta_grant_92 : Dc mi_Sta_grant 92 (.aload 4) 2 94 := ⟨by decide +kernel, rfl⟩
theorem dd_Sta_grant_94 : Dc mi_Sta_grant 94 (.getfield 78) 3 97 := ⟨by decide +kernel, rfl⟩
theorem dd_Sta_grant_97 : decode (mbc mi_Sta_grant) 97 = .ok (retI (mrt mi_Sta_grant), 1) := by decide +kernel
theorem dd_Sta_whyNot_0 : Dc mi_Sta_whyNot 0 (.aload_n 0) 1 1 := ⟨by decide +kernel, rfl⟩
theorem dd_Sta_whyNot_1 : Dc mi_Sta_whyNot 1 (.iload_n 1) 1 2 := ⟨by decide +kernel, rfl⟩
theorem dd_Sta_whyNot_2 : Dc mi_Sta_whyNot 2 (.invokevirtual 90) 3 5 := ⟨by decide +kernel, rfl⟩
theorem dd_Sta_whyNot_5 : Dc mi_Sta_whyNot 5 (.astore_n 3) 1 6 := ⟨by decide +kernel, rfl⟩
theorem dd_Sta_whyNot_6 : Dc mi_Sta_whyNot 6 (.aload_n 3) 1 7 := ⟨by decide +kernel, rfl⟩
theorem dd_Sta_whyNot_7 : Db mi_Sta_whyNot 7 (.ifnonnull 5) 5 10 12 := ⟨by decide +kernel, rfl, rfl⟩
theorem dd_Sta_whyNot_10 : Dc mi_Sta_whyNot 10 (.iconst (-1)) 1 11 := ⟨by decide +kernel, rfl⟩
theorem dd_Sta_whyNot_11 : decode (mbc mi_Sta_whyNot) 11 = .ok (retI (mrt mi_Sta_whyNot), 1) := by decide +kernel
theorem dd_Sta_whyNot_12 : Dc mi_Sta_whyNot 12 (.iload_n 2) 1 13 := ⟨by decide +kernel, rfl⟩
theorem dd_Sta_whyNot_13 : Dc mi_Sta_whyNot 13 (.iconst 1) 1 14 := ⟨by decide +kernel, rfl⟩
theorem dd_Sta_whyNot_14 : Db mi_Sta_whyNot 14 (.if_icmp .lt 9) 9 17 23 := ⟨by decide +kernel, rfl, rfl⟩
theorem dd_Sta_whyNot_17 : Dc mi_Sta_whyNot 17 (.iload_n 2) 1 18 := ⟨by decide +kernel, rfl⟩
theorem dd_Sta_whyNot_18 : Dc mi_Sta_whyNot 18 (.bipush 14) 2 20 := ⟨by decide +kernel, rfl⟩
theorem dd_Sta_whyNot_20 : Db mi_Sta_whyNot 20 (.if_icmp .le 6) 6 23 26 := ⟨by decide +kernel, rfl, rfl⟩
theorem dd_Sta_whyNot_23 : Dc mi_Sta_whyNot 23 (.bipush (-2)) 2 25 := ⟨by decide +kernel, rfl⟩
theorem dd_Sta_whyNot_25 : decode (mbc mi_Sta_whyNot) 25 = .ok (retI (mrt mi_Sta_whyNot), 1) := by decide +kernel
theorem dd_Sta_whyNot_26 : Dc mi_Sta_whyNot 26 (.aload_n 3) 1 27 := ⟨by decide +kernel, rfl⟩
theorem dd_Sta_whyNot_27 : Dc mi_Sta_whyNot 27 (.getfield 104) 3 30 := ⟨by decide +kernel, rfl⟩
theorem dd_Sta_whyNot_30 : Db mi_Sta_whyNot 30 (.ifCond .ne 5) 5 33 35 := ⟨by decide +kernel, rfl, rfl⟩
theorem dd_Sta_whyNot_33 : Dc mi_Sta_whyNot 33 (.iconst 1) 1 34 := ⟨by decide +kernel, rfl⟩
theorem dd_Sta_whyNot_34 : decode (mbc mi_Sta_whyNot) 34 = .ok (retI (mrt mi_Sta_whyNot), 1) := by decide +kernel
theorem dd_Sta_whyNot_35 : Dc mi_Sta_whyNot 35 (.iload_n 2) 1 36 := ⟨by decide +kernel, rfl⟩
theorem dd_Sta_whyNot_36 : Dc mi_Sta_whyNot 36 (.invokestatic 67) 3 39 := ⟨by decide +kernel, rfl⟩
theorem dd_Sta_whyNot_39 : Dc mi_Sta_whyNot 39 (.istore 4) 2 41 := ⟨by decide +kernel, rfl⟩
theorem dd_Sta_whyNot_41 : Dc mi_Sta_whyNot 41 (.aload_n 0) 1 42 := ⟨by decide +kernel, rfl⟩
theorem dd_Sta_whyNot_42 : Dc mi_Sta_whyNot 42 (.iload_n 1) 1 43 := ⟨by decide +kernel, rfl⟩
theorem dd_Sta_whyNot_43 : Dc mi_Sta_whyNot 43 (.invokevirtual 185) 3 46 := ⟨by decide +kernel, rfl⟩
theorem dd_Sta_whyNot_46 : Dc mi_Sta_whyNot 46 (.iload 4) 2 48 := ⟨by decide +kernel, rfl⟩
theorem dd_Sta_whyNot_48 : Dc mi_Sta_whyNot 48 (.invokestatic 138) 3 51 := ⟨by decide +kernel, rfl⟩
theorem dd_Sta_whyNot_51 : Dc mi_Sta_whyNot 51 (.iadd) 1 52 := ⟨by decide +kernel, rfl⟩
theorem dd_Sta_whyNot_52 : Dc mi_Sta_whyNot 52 (.aload_n 3) 1 53 := ⟨by decide +kernel, rfl⟩
theorem dd_Sta_whyNot_53 : Dc mi_Sta_whyNot 53 (.getfield 127) 3 56 := ⟨by decide +kernel, rfl⟩
theorem dd_Sta_whyNot_56 : Db mi_Sta_whyNot 56 (.if_icmp .le 5) 5 59 61 := ⟨by decide +kernel, rfl, rfl⟩
theorem dd_Sta_whyNot_59 : Dc mi_Sta_whyNot 59 (.iconst 2) 1 60 := ⟨by decide +kernel, rfl⟩
theorem dd_Sta_whyNot_60 : decode (mbc mi_Sta_whyNot) 60 = .ok (retI (mrt mi_Sta_whyNot), 1) := by decide +kernel
theorem dd_Sta_whyNot_61 : Dc mi_Sta_whyNot 61 (.aload_n 0) 1 62 := ⟨by decide +kernel, rfl⟩
theorem dd_Sta_whyNot_62 : Dc mi_Sta_whyNot 62 (.iload 4) 2 64 := ⟨by decide +kernel, rfl⟩
theorem dd_Sta_whyNot_64 : Dc mi_Sta_whyNot 64 (.invokevirtual 148) 3 67 := ⟨by decide +kernel, rfl⟩
theorem dd_Sta_whyNot_67 : Db mi_Sta_whyNot 67 (.ifnonnull 7) 7 70 74 := ⟨by decide +kernel, rfl, rfl⟩
theorem dd_Sta_whyNot_70 : Dc mi_Sta_whyNot 70 (.iconst 3) 1 71 := ⟨by decide +kernel, rfl⟩
theorem dd_Sta_whyNot_71 : Db mi_Sta_whyNot 71 (.goto 4) 4 74 75 := ⟨by decide +kernel, rfl, rfl⟩
theorem dd_Sta_whyNot_74 : Dc mi_Sta_whyNot 74 (.iconst 0) 1 75 := ⟨by decide +kernel, rfl⟩
theorem dd_Sta_whyNot_75 : decode (mbc mi_Sta_whyNot) 75 = .ok (retI (mrt mi_Sta_whyNot), 1) := by decide +kernel
theorem dd_Sta_taskOf_0 : Dc mi_Sta_taskOf 0 (.iload_n 1) 1 1 := ⟨by decide +kernel, rfl⟩
theorem dd_Sta_taskOf_1 : Db mi_Sta_taskOf 1 (.ifCond .lt 9) 9 4 10 := ⟨by decide +kernel, rfl, rfl⟩
theorem dd_Sta_taskOf_4 : Dc mi_Sta_taskOf 4 (.iload_n 1) 1 5 := ⟨by decide +kernel, rfl⟩
theorem dd_Sta_taskOf_5 : Dc mi_Sta_taskOf 5 (.bipush 6) 2 7 := ⟨by decide +kernel, rfl⟩
theorem dd_Sta_taskOf_7 : Db mi_Sta_taskOf 7 (.if_icmp .lt 7) 7 10 14 := ⟨by decide +kernel, rfl, rfl⟩
theorem dd_Sta_taskOf_10 : Dc mi_Sta_taskOf 10 (.aconst_null) 1 11 := ⟨by decide +kernel, rfl⟩
theorem dd_Sta_taskOf_11 : Db mi_Sta_taskOf 11 (.goto 9) 9 14 20 := ⟨by decide +kernel, rfl, rfl⟩
theorem dd_Sta_taskOf_14 : Dc mi_Sta_taskOf 14 (.aload_n 0) 1 15 := ⟨by decide +kernel, rfl⟩
theorem dd_Sta_taskOf_15 : Dc mi_Sta_taskOf 15 (.getfield 26) 3 18 := ⟨by decide +kernel, rfl⟩
theorem dd_Sta_taskOf_18 : Dc mi_Sta_taskOf 18 (.iload_n 1) 1 19 := ⟨by decide +kernel, rfl⟩
theorem dd_Sta_taskOf_19 : Dc mi_Sta_taskOf 19 (.aaload) 1 20 := ⟨by decide +kernel, rfl⟩
theorem dd_Sta_taskOf_20 : decode (mbc mi_Sta_taskOf) 20 = .ok (retI (mrt mi_Sta_taskOf), 1) := by decide +kernel
theorem dd_Sta_sizeFor_0 : Dc mi_Sta_sizeFor 0 (.iconst 0) 1 1 := ⟨by decide +kernel, rfl⟩
theorem dd_Sta_sizeFor_1 : Dc mi_Sta_sizeFor 1 (.istore_n 1) 1 2 := ⟨by decide +kernel, rfl⟩
theorem dd_Sta_sizeFor_2 : Dc mi_Sta_sizeFor 2 (.iload_n 1) 1 3 := ⟨by decide +kernel, rfl⟩
theorem dd_Sta_sizeFor_3 : Dc mi_Sta_sizeFor 3 (.iconst 2) 1 4 := ⟨by decide +kernel, rfl⟩
theorem dd_Sta_sizeFor_4 : Db mi_Sta_sizeFor 4 (.if_icmp .ge 19) 19 7 23 := ⟨by decide +kernel, rfl, rfl⟩
theorem dd_Sta_sizeFor_7 : Dc mi_Sta_sizeFor 7 (.iload_n 1) 1 8 := ⟨by decide +kernel, rfl⟩
theorem dd_Sta_sizeFor_8 : Dc mi_Sta_sizeFor 8 (.invokestatic 138) 3 11 := ⟨by decide +kernel, rfl⟩
theorem dd_Sta_sizeFor_11 : Dc mi_Sta_sizeFor 11 (.iload_n 0) 1 12 := ⟨by decide +kernel, rfl⟩
theorem dd_Sta_sizeFor_12 : Dc mi_Sta_sizeFor 12 (.iconst 2) 1 13 := ⟨by decide +kernel, rfl⟩
theorem dd_Sta_sizeFor_13 : Dc mi_Sta_sizeFor 13 (.iadd) 1 14 := ⟨by decide +kernel, rfl⟩
theorem dd_Sta_sizeFor_14 : Db mi_Sta_sizeFor 14 (.if_icmp .ge 9) 9 17 23 := ⟨by decide +kernel, rfl, rfl⟩
theorem dd_Sta_sizeFor_17 : Dc mi_Sta_sizeFor 17 (.iinc 1 1) 3 20 := ⟨by decide +kernel, rfl⟩
theorem dd_Sta_sizeFor_20 : Db mi_Sta_sizeFor 20 (.goto (-18)) (-18) 23 2 := ⟨by decide +kernel, rfl, rfl⟩
theorem dd_Sta_sizeFor_23 : Dc mi_Sta_sizeFor 23 (.iload_n 1) 1 24 := ⟨by decide +kernel, rfl⟩
theorem dd_Sta_sizeFor_24 : decode (mbc mi_Sta_sizeFor) 24 = .ok (retI (mrt mi_Sta_sizeFor), 1) := by decide +kernel
theorem dd_Sta_wordsOf_0 : Dc mi_Sta_wordsOf 0 (.iconst 0) 1 1 := ⟨by decide +kernel, rfl⟩
theorem dd_Sta_wordsOf_1 : Dc mi_Sta_wordsOf 1 (.istore_n 2) 1 2 := ⟨by decide +kernel, rfl⟩
theorem dd_Sta_wordsOf_2 : Dc mi_Sta_wordsOf 2 (.aload_n 0) 1 3 := ⟨by decide +kernel, rfl⟩
theorem dd_Sta_wordsOf_3 : Dc mi_Sta_wordsOf 3 (.getfield 11) 3 6 := ⟨by decide +kernel, rfl⟩
theorem dd_Sta_wordsOf_6 : Dc mi_Sta_wordsOf 6 (.astore_n 3) 1 7 := ⟨by decide +kernel, rfl⟩
theorem dd_Sta_wordsOf_7 : Dc mi_Sta_wordsOf 7 (.aload_n 3) 1 8 := ⟨by decide +kernel, rfl⟩
theorem dd_Sta_wordsOf_8 : Dc mi_Sta_wordsOf 8 (.arraylength) 1 9 := ⟨by decide +kernel, rfl⟩
theorem dd_Sta_wordsOf_9 : Dc mi_Sta_wordsOf 9 (.istore 4) 2 11 := ⟨by decide +kernel, rfl⟩
theorem dd_Sta_wordsOf_11 : Dc mi_Sta_wordsOf 11 (.iconst 0) 1 12 := ⟨by decide +kernel, rfl⟩
theorem dd_Sta_wordsOf_12 : Dc mi_Sta_wordsOf 12 (.istore 5) 2 14 := ⟨by decide +kernel, rfl⟩
theorem dd_Sta_wordsOf_14 : Dc mi_Sta_wordsOf 14 (.iload 5) 2 16 := ⟨by decide +kernel, rfl⟩
theorem dd_Sta_wordsOf_16 : Dc mi_Sta_wordsOf 16 (.iload 4) 2 18 := ⟨by decide +kernel, rfl⟩
theorem dd_Sta_wordsOf_18 : Db mi_Sta_wordsOf 18 (.if_icmp .ge 32) 32 21 50 := ⟨by decide +kernel, rfl, rfl⟩
theorem dd_Sta_wordsOf_21 : Dc mi_Sta_wordsOf 21 (.aload_n 3) 1 22 := ⟨by decide +kernel, rfl⟩
theorem dd_Sta_wordsOf_22 : Dc mi_Sta_wordsOf 22 (.iload 5) 2 24 := ⟨by decide +kernel, rfl⟩
theorem dd_Sta_wordsOf_24 : Dc mi_Sta_wordsOf 24 (.aaload) 1 25 := ⟨by decide +kernel, rfl⟩
theorem dd_Sta_wordsOf_25 : Dc mi_Sta_wordsOf 25 (.astore 6) 2 27 := ⟨by decide +kernel, rfl⟩
theorem dd_Sta_wordsOf_27 : Dc mi_Sta_wordsOf 27 (.aload 6) 2 29 := ⟨by decide +kernel, rfl⟩
theorem dd_Sta_wordsOf_29 : Dc mi_Sta_wordsOf 29 (.getfield 75) 3 32 := ⟨by decide +kernel, rfl⟩
theorem dd_Sta_wordsOf_32 : Dc mi_Sta_wordsOf 32 (.iload_n 1) 1 33 := ⟨by decide +kernel, rfl⟩
theorem dd_Sta_wordsOf_33 : Db mi_Sta_wordsOf 33 (.if_icmp .ne 11) 11 36 44 := ⟨by decide +kernel, rfl, rfl⟩
theorem dd_Sta_wordsOf_36 : Dc mi_Sta_wordsOf 36 (.iload_n 2) 1 37 := ⟨by decide +kernel, rfl⟩
theorem dd_Sta_wordsOf_37 : Dc mi_Sta_wordsOf 37 (.aload 6) 2 39 := ⟨by decide +kernel, rfl⟩
theorem dd_Sta_wordsOf_39 : Dc mi_Sta_wordsOf 39 (.invokevirtual 157) 3 42 := ⟨by decide +kernel, rfl⟩
theorem dd_Sta_wordsOf_42 : Dc mi_Sta_wordsOf 42 (.iadd) 1 43 := ⟨by decide +kernel, rfl⟩
theorem dd_Sta_wordsOf_43 : Dc mi_Sta_wordsOf 43 (.istore_n 2) 1 44 := ⟨by decide +kernel, rfl⟩
theorem dd_Sta_wordsOf_44 : Dc mi_Sta_wordsOf 44 (.iinc 5 1) 3 47 := ⟨by decide +kernel, rfl⟩
theorem dd_Sta_wordsOf_47 : Db mi_Sta_wordsOf 47 (.goto (-33)) (-33) 50 14 := ⟨by decide +kernel, rfl, rfl⟩
theorem dd_Sta_wordsOf_50 : Dc mi_Sta_wordsOf 50 (.iload_n 2) 1 51 := ⟨by decide +kernel, rfl⟩
theorem dd_Sta_wordsOf_51 : decode (mbc mi_Sta_wordsOf) 51 = .ok (retI (mrt mi_Sta_wordsOf), 1) := by decide +kernel
theorem dd_Sta_roomFor_0 : Dc mi_Sta_roomFor 0 (.iload_n 1) 1 1 := ⟨by decide +kernel, rfl⟩
theorem dd_Sta_roomFor_1 : Dc mi_Sta_roomFor 1 (.istore_n 2) 1 2 := ⟨by decide +kernel, rfl⟩
theorem dd_Sta_roomFor_2 : Dc mi_Sta_roomFor 2 (.iload_n 2) 1 3 := ⟨by decide +kernel, rfl⟩
theorem dd_Sta_roomFor_3 : Dc mi_Sta_roomFor 3 (.iconst 3) 1 4 := ⟨by decide +kernel, rfl⟩
theorem dd_Sta_roomFor_4 : Db mi_Sta_roomFor 4 (.if_icmp .ge 21) 21 7 25 := ⟨by decide +kernel, rfl, rfl⟩
theorem dd_Sta_roomFor_7 : Dc mi_Sta_roomFor 7 (.aload_n 0) 1 8 := ⟨by decide +kernel, rfl⟩
theorem dd_Sta_roomFor_8 : Dc mi_Sta_roomFor 8 (.iload_n 2) 1 9 := ⟨by decide +kernel, rfl⟩
theorem dd_Sta_roomFor_9 : Dc mi_Sta_roomFor 9 (.invokevirtual 145) 3 12 := ⟨by decide +kernel, rfl⟩
theorem dd_Sta_roomFor_12 : Dc mi_Sta_roomFor 12 (.astore_n 3) 1 13 := ⟨by decide +kernel, rfl⟩
theorem dd_Sta_roomFor_13 : Dc mi_Sta_roomFor 13 (.aload_n 3) 1 14 := ⟨by decide +kernel, rfl⟩
theorem dd_Sta_roomFor_14 : Db mi_Sta_roomFor 14 (.ifnull 5) 5 17 19 := ⟨by decide +kernel, rfl, rfl⟩
theorem dd_Sta_roomFor_17 : Dc mi_Sta_roomFor 17 (.aload_n 3) 1 18 := ⟨by decide +kernel, rfl⟩
theorem dd_Sta_roomFor_18 : decode (mbc mi_Sta_roomFor) 18 = .ok (retI (mrt mi_Sta_roomFor), 1) := by decide +kernel
theorem dd_Sta_roomFor_19 : Dc mi_Sta_roomFor 19 (.iinc 2 1) 3 22 := ⟨by decide +kernel, rfl⟩
theorem dd_Sta_roomFor_22 : Db mi_Sta_roomFor 22 (.goto (-20)) (-20) 25 2 := ⟨by decide +kernel, rfl, rfl⟩
theorem dd_Sta_roomFor_25 : Dc mi_Sta_roomFor 25 (.aconst_null) 1 26 := ⟨by decide +kernel, rfl⟩
theorem dd_Sta_roomFor_26 : decode (mbc mi_Sta_roomFor) 26 = .ok (retI (mrt mi_Sta_roomFor), 1) := by decide +kernel
theorem dd_Sta_lowestFree_0 : Dc mi_Sta_lowestFree 0 (.aload_n 0) 1 1 := ⟨by decide +kernel, rfl⟩
theorem dd_Sta_lowestFree_1 : Dc mi_Sta_lowestFree 1 (.getfield 11) 3 4 := ⟨by decide +kernel, rfl⟩
theorem dd_Sta_lowestFree_4 : Dc mi_Sta_lowestFree 4 (.astore_n 2) 1 5 := ⟨by decide +kernel, rfl⟩
theorem dd_Sta_lowestFree_5 : Dc mi_Sta_lowestFree 5 (.aload_n 2) 1 6 := ⟨by decide +kernel, rfl⟩
theorem dd_Sta_lowestFree_6 : Dc mi_Sta_lowestFree 6 (.arraylength) 1 7 := ⟨by decide +kernel, rfl⟩
theorem dd_Sta_lowestFree_7 : Dc mi_Sta_lowestFree 7 (.istore_n 3) 1 8 := ⟨by decide +kernel, rfl⟩
theorem dd_Sta_lowestFree_8 : Dc mi_Sta_lowestFree 8 (.iconst 0) 1 9 := ⟨by decide +kernel, rfl⟩
theorem dd_Sta_lowestFree_9 : Dc mi_Sta_lowestFree 9 (.istore 4) 2 11 := ⟨by decide +kernel, rfl⟩
theorem dd_Sta_lowestFree_11 : Dc mi_Sta_lowestFree 11 (.iload 4) 2 13 := ⟨by decide +kernel, rfl⟩
theorem dd_Sta_lowestFree_13 : Dc mi_Sta_lowestFree 13 (.iload_n 3) 1 14 := ⟨by decide +kernel, rfl⟩
theorem dd_Sta_lowestFree_14 : Db mi_Sta_lowestFree 14 (.if_icmp .ge 27) 27 17 41 := ⟨by decide +kernel, rfl, rfl⟩
theorem dd_Sta_lowestFree_17 : Dc mi_Sta_lowestFree 17 (.aload_n 2) 1 18 := ⟨by decide +kernel, rfl⟩
theorem dd_Sta_lowestFree_18 : Dc mi_Sta_lowestFree 18 (.iload 4) 2 20 := ⟨by decide +kernel, rfl⟩
theorem dd_Sta_lowestFree_20 : Dc mi_Sta_lowestFree 20 (.aaload) 1 21 := ⟨by decide +kernel, rfl⟩
theorem dd_Sta_lowestFree_21 : Dc mi_Sta_lowestFree 21 (.astore 5) 2 23 := ⟨by decide +kernel, rfl⟩
theorem dd_Sta_lowestFree_23 : Dc mi_Sta_lowestFree 23 (.aload 5) 2 25 := ⟨by decide +kernel, rfl⟩
theorem dd_Sta_lowestFree_25 : Dc mi_Sta_lowestFree 25 (.iload_n 1) 1 26 := ⟨by decide +kernel, rfl⟩
theorem dd_Sta_lowestFree_26 : Dc mi_Sta_lowestFree 26 (.invokevirtual 141) 3 29 := ⟨by decide +kernel, rfl⟩
theorem dd_Sta_lowestFree_29 : Db mi_Sta_lowestFree 29 (.ifCond .eq 6) 6 32 35 := ⟨by decide +kernel, rfl, rfl⟩
theorem dd_Sta_lowestFree_32 : Dc mi_Sta_lowestFree 32 (.aload 5) 2 34 := ⟨by decide +kernel, rfl⟩
theorem dd_Sta_lowestFree_34 : decode (mbc mi_Sta_lowestFree) 34 = .ok (retI (mrt mi_Sta_lowestFree), 1) := by decide +kernel
theorem dd_Sta_lowestFree_35 : Dc mi_Sta_lowestFree 35 (.iinc 4 1) 3 38 := ⟨by decide +kernel, rfl⟩
theorem dd_Sta_lowestFree_38 : Db mi_Sta_lowestFree 38 (.goto (-27)) (-27) 41 11 := ⟨by decide +kernel, rfl, rfl⟩
theorem dd_Sta_lowestFree_41 : Dc mi_Sta_lowestFree 41 (.aconst_null) 1 42 := ⟨by decide +kernel, rfl⟩
theorem dd_Sta_lowestFree_42 : decode (mbc mi_Sta_lowestFree) 42 = .ok (retI (mrt mi_Sta_lowestFree), 1) := by decide +kernel
theorem dd_Sta_cutOut_0 : Dc mi_Sta_cutOut 0 (.aload_n 0) 1 1 := ⟨by decide +kernel, rfl⟩
theorem dd_Sta_cutOut_1 : Dc mi_Sta_cutOut 1 (.iload_n 1) 1 2 := ⟨by decide +kernel, rfl⟩
theorem dd_Sta_cutOut_2 : Dc mi_Sta_cutOut 2 (.invokevirtual 148) 3 5 := ⟨by decide +kernel, rfl⟩
theorem dd_Sta_cutOut_5 : Dc mi_Sta_cutOut 5 (.astore_n 2) 1 6 := ⟨by decide +kernel, rfl⟩
theorem dd_Sta_cutOut_6 : Dc mi_Sta_cutOut 6 (.aload_n 2) 1 7 := ⟨by decide +kernel, rfl⟩
theorem dd_Sta_cutOut_7 : Db mi_Sta_cutOut 7 (.ifnonnull 5) 5 10 12 := ⟨by decide +kernel, rfl, rfl⟩
theorem dd_Sta_cutOut_10 : Dc mi_Sta_cutOut 10 (.aconst_null) 1 11 := ⟨by decide +kernel, rfl⟩
theorem dd_Sta_cutOut_11 : decode (mbc mi_Sta_cutOut) 11 = .ok (retI (mrt mi_Sta_cutOut), 1) := by decide +kernel
theorem dd_Sta_cutOut_12 : Dc mi_Sta_cutOut 12 (.aload_n 2) 1 13 := ⟨by decide +kernel, rfl⟩
theorem dd_Sta_cutOut_13 : Dc mi_Sta_cutOut 13 (.getfield 151) 3 16 := ⟨by decide +kernel, rfl⟩
theorem dd_Sta_cutOut_16 : Dc mi_Sta_cutOut 16 (.istore_n 3) 1 17 := ⟨by decide +kernel, rfl⟩
theorem dd_Sta_cutOut_17 : Dc mi_Sta_cutOut 17 (.iload_n 3) 1 18 := ⟨by decide +kernel, rfl⟩
theorem dd_Sta_cutOut_18 : Dc mi_Sta_cutOut 18 (.iload_n 1) 1 19 := ⟨by decide +kernel, rfl⟩
theorem dd_Sta_cutOut_19 : Db mi_Sta_cutOut 19 (.if_icmp .le 14) 14 22 33 := ⟨by decide +kernel, rfl, rfl⟩
theorem dd_Sta_cutOut_22 : Dc mi_Sta_cutOut 22 (.aload_n 0) 1 23 := ⟨by decide +kernel, rfl⟩
theorem dd_Sta_cutOut_23 : Dc mi_Sta_cutOut 23 (.aload_n 2) 1 24 := ⟨by decide +kernel, rfl⟩
theorem dd_Sta_cutOut_24 : Dc mi_Sta_cutOut 24 (.invokevirtual 154) 3 27 := ⟨by decide +kernel, rfl⟩
theorem dd_Sta_cutOut_27 : Dc mi_Sta_cutOut 27 (.iinc 3 (-1)) 3 30 := ⟨by decide +kernel, rfl⟩
theorem dd_Sta_cutOut_30 : Db mi_Sta_cutOut 30 (.goto (-13)) (-13) 33 17 := ⟨by decide +kernel, rfl, rfl⟩
theorem dd_Sta_cutOut_33 : Dc mi_Sta_cutOut 33 (.aload_n 2) 1 34 := ⟨by decide +kernel, rfl⟩
theorem dd_Sta_cutOut_34 : decode (mbc mi_Sta_cutOut) 34 = .ok (retI (mrt mi_Sta_cutOut), 1) := by decide +kernel
theorem dd_Sta_halve_0 : Dc mi_Sta_halve 0 (.aload_n 0) 1 1 := ⟨by decide +kernel, rfl⟩
theorem dd_Sta_halve_1 : Dc mi_Sta_halve 1 (.aload_n 1) 1 2 := ⟨by decide +kernel, rfl⟩
theorem dd_Sta_halve_2 : Dc mi_Sta_halve 2 (.getfield 98) 3 5 := ⟨by decide +kernel, rfl⟩
theorem dd_Sta_halve_5 : Dc mi_Sta_halve 5 (.aload_n 1) 1 6 := ⟨by decide +kernel, rfl⟩
theorem dd_Sta_halve_6 : Dc mi_Sta_halve 6 (.invokevirtual 157) 3 9 := ⟨by decide +kernel, rfl⟩
theorem dd_Sta_halve_9 : Dc mi_Sta_halve 9 (.iconst 2) 1 10 := ⟨by decide +kernel, rfl⟩
theorem dd_Sta_halve_10 : Dc mi_Sta_halve 10 (.idiv) 1 11 := ⟨by decide +kernel, rfl⟩
theorem dd_Sta_halve_11 : Dc mi_Sta_halve 11 (.iadd) 1 12 := ⟨by decide +kernel, rfl⟩
theorem dd_Sta_halve_12 : Dc mi_Sta_halve 12 (.invokevirtual 160) 3 15 := ⟨by decide +kernel, rfl⟩
theorem dd_Sta_halve_15 : Dc mi_Sta_halve 15 (.astore_n 2) 1 16 := ⟨by decide +kernel, rfl⟩
theorem dd_Sta_halve_16 : Dc mi_Sta_halve 16 (.aload_n 2) 1 17 := ⟨by decide +kernel, rfl⟩
theorem dd_Sta_halve_17 : Db mi_Sta_halve 17 (.ifnonnull 4) 4 20 21 := ⟨by decide +kernel, rfl, rfl⟩
theorem dd_Sta_halve_20 : decode (mbc mi_Sta_halve) 20 = .ok (retI (mrt mi_Sta_halve), 1) := by decide +kernel
theorem dd_Sta_halve_21 : Dc mi_Sta_halve 21 (.aload_n 1) 1 22 := ⟨by decide +kernel, rfl⟩
theorem dd_Sta_halve_22 : Dc mi_Sta_halve 22 (.dup) 1 23 := ⟨by decide +kernel, rfl⟩
theorem dd_Sta_halve_23 : Dc mi_Sta_halve 23 (.getfield 151) 3 26 := ⟨by decide +kernel, rfl⟩
theorem dd_Sta_halve_26 : Dc mi_Sta_halve 26 (.iconst 1) 1 27 := ⟨by decide +kernel, rfl⟩
theorem dd_Sta_halve_27 : Dc mi_Sta_halve 27 (.isub) 1 28 := ⟨by decide +kernel, rfl⟩
theorem dd_Sta_halve_28 : Dc mi_Sta_halve 28 (.putfield 151) 3 31 := ⟨by decide +kernel, rfl⟩
theorem dd_Sta_halve_31 : Dc mi_Sta_halve 31 (.aload_n 2) 1 32 := ⟨by decide +kernel, rfl⟩
theorem dd_Sta_halve_32 : Dc mi_Sta_halve 32 (.aload_n 1) 1 33 := ⟨by decide +kernel, rfl⟩
theorem dd_Sta_halve_33 : Dc mi_Sta_halve 33 (.getfield 151) 3 36 := ⟨by decide +kernel, rfl⟩
theorem dd_Sta_halve_36 : Dc mi_Sta_halve 36 (.putfield 151) 3 39 := ⟨by decide +kernel, rfl⟩
theorem dd_Sta_halve_39 : Dc mi_Sta_halve 39 (.aload_n 0) 1 40 := ⟨by decide +kernel, rfl⟩
theorem dd_Sta_halve_40 : Dc mi_Sta_halve 40 (.dup) 1 41 := ⟨by decide +kernel, rfl⟩
theorem dd_Sta_halve_41 : Dc mi_Sta_halve 41 (.getfield 54) 3 44 := ⟨by decide +kernel, rfl⟩
theorem dd_Sta_halve_44 : Dc mi_Sta_halve 44 (.iconst 1) 1 45 := ⟨by decide +kernel, rfl⟩
theorem dd_Sta_halve_45 : Dc mi_Sta_halve 45 (.iadd) 1 46 := ⟨by decide +kernel, rfl⟩
theorem dd_Sta_halve_46 : Dc mi_Sta_halve 46 (.putfield 54) 3 49 := ⟨by decide +kernel, rfl⟩
theorem dd_Sta_halve_49 : decode (mbc mi_Sta_halve) 49 = .ok (retI (mrt mi_Sta_halve), 1) := by decide +kernel
theorem dd_Sta_placeAt_0 : Dc mi_Sta_placeAt 0 (.iload_n 1) 1 1 := ⟨by decide +kernel, rfl⟩
theorem dd_Sta_placeAt_1 : Db mi_Sta_placeAt 1 (.ifCond .lt 9) 9 4 10 := ⟨by decide +kernel, rfl, rfl⟩
theorem dd_Sta_placeAt_4 : Dc mi_Sta_placeAt 4 (.iload_n 1) 1 5 := ⟨by decide +kernel, rfl⟩
theorem dd_Sta_placeAt_5 : Dc mi_Sta_placeAt 5 (.bipush 64) 2 7 := ⟨by decide +kernel, rfl⟩
theorem dd_Sta_placeAt_7 : Db mi_Sta_placeAt 7 (.if_icmp .lt 7) 7 10 14 := ⟨by decide +kernel, rfl, rfl⟩
theorem dd_Sta_placeAt_10 : Dc mi_Sta_placeAt 10 (.aconst_null) 1 11 := ⟨by decide +kernel, rfl⟩
theorem dd_Sta_placeAt_11 : Db mi_Sta_placeAt 11 (.goto 11) 11 14 22 := ⟨by decide +kernel, rfl, rfl⟩
theorem dd_Sta_placeAt_14 : Dc mi_Sta_placeAt 14 (.aload_n 0) 1 15 := ⟨by decide +kernel, rfl⟩
theorem dd_Sta_placeAt_15 : Dc mi_Sta_placeAt 15 (.getfield 11) 3 18 := ⟨by decide +kernel, rfl⟩
theorem dd_Sta_placeAt_18 : Dc mi_Sta_placeAt 18 (.iload_n 1) 1 19 := ⟨by decide +kernel, rfl⟩
theorem dd_Sta_placeAt_19 : Dc mi_Sta_placeAt 19 (.iconst 4) 1 20 := ⟨by decide +kernel, rfl⟩
theorem dd_Sta_placeAt_20 : Dc mi_Sta_placeAt 20 (.idiv) 1 21 := ⟨by decide +kernel, rfl⟩
theorem dd_Sta_placeAt_21 : Dc mi_Sta_placeAt 21 (.aaload) 1 22 := ⟨by decide +kernel, rfl⟩
theorem dd_Sta_placeAt_22 : decode (mbc mi_Sta_placeAt) 22 = .ok (retI (mrt mi_Sta_placeAt), 1) := by decide +kernel
theorem dd_Sta_takeBack_0 : Dc mi_Sta_takeBack 0 (.aload_n 0) 1 1 := ⟨by decide +kernel, rfl⟩
theorem dd_Sta_takeBack_1 : Dc mi_Sta_takeBack 1 (.iload_n 2) 1 2 := ⟨by decide +kernel, rfl⟩
theorem dd_Sta_takeBack_2 : Dc mi_Sta_takeBack 2 (.invokevirtual 87) 3 5 := ⟨by decide +kernel, rfl⟩
theorem dd_Sta_takeBack_5 : Dc mi_Sta_takeBack 5 (.astore_n 3) 1 6 := ⟨by decide +kernel, rfl⟩
theorem dd_Sta_takeBack_6 : Dc mi_Sta_takeBack 6 (.aload_n 0) 1 7 := ⟨by decide +kernel, rfl⟩
theorem dd_Sta_takeBack_7 : Dc mi_Sta_takeBack 7 (.iload_n 1) 1 8 := ⟨by decide +kernel, rfl⟩
theorem dd_Sta_takeBack_8 : Dc mi_Sta_takeBack 8 (.invokevirtual 90) 3 11 := ⟨by decide +kernel, rfl⟩
theorem dd_Sta_takeBack_11 : Db mi_Sta_takeBack 11 (.ifnull 7) 7 14 18 := ⟨by decide +kernel, rfl, rfl⟩
theorem dd_Sta_takeBack_14 : Dc mi_Sta_takeBack 14 (.aload_n 3) 1 15 := ⟨by decide +kernel, rfl⟩
theorem dd_Sta_takeBack_15 : Db mi_Sta_takeBack 15 (.ifnonnull 5) 5 18 20 := ⟨by decide +kernel, rfl, rfl⟩
theorem dd_Sta_takeBack_18 : Dc mi_Sta_takeBack 18 (.iconst (-1)) 1 19 := ⟨by decide +kernel, rfl⟩
theorem dd_Sta_takeBack_19 : decode (mbc mi_Sta_takeBack) 19 = .ok (retI (mrt mi_Sta_takeBack), 1) := by decide +kernel
theorem dd_Sta_takeBack_20 : Dc mi_Sta_takeBack 20 (.aload_n 3) 1 21 := ⟨by decide +kernel, rfl⟩
theorem dd_Sta_takeBack_21 : Dc mi_Sta_takeBack 21 (.getfield 75) 3 24 := ⟨by decide +kernel, rfl⟩
theorem dd_Sta_takeBack_24 : Dc mi_Sta_takeBack 24 (.iload_n 1) 1 25 := ⟨by decide +kernel, rfl⟩
theorem dd_Sta_takeBack_25 : Db mi_Sta_takeBack 25 (.if_icmp .eq 6) 6 28 31 := ⟨by decide +kernel, rfl, rfl⟩
theorem dd_Sta_takeBack_28 : Dc mi_Sta_takeBack 28 (.bipush (-4)) 2 30 := ⟨by decide +kernel, rfl⟩
theorem dd_Sta_takeBack_30 : decode (mbc mi_Sta_takeBack) 30 = .ok (retI (mrt mi_Sta_takeBack), 1) := by decide +kernel
theorem dd_Sta_takeBack_31 : Dc mi_Sta_takeBack 31 (.aload_n 0) 1 32 := ⟨by decide +kernel, rfl⟩
theorem dd_Sta_takeBack_32 : Dc mi_Sta_takeBack 32 (.aload_n 3) 1 33 := ⟨by decide +kernel, rfl⟩
theorem dd_Sta_takeBack_33 : Dc mi_Sta_takeBack 33 (.invokevirtual 94) 3 36 := ⟨by decide +kernel, rfl⟩
theorem dd_Sta_takeBack_36 : decode (mbc mi_Sta_takeBack) 36 = .ok (retI (mrt mi_Sta_takeBack), 1) := by decide +kernel
theorem dd_Sta_blockOf_0 : Dc mi_Sta_blockOf 0 (.aload_n 0) 1 1 := ⟨by decide +kernel, rfl⟩
theorem dd_Sta_blockOf_1 : Dc mi_Sta_blockOf 1 (.getfield 11) 3 4 := ⟨by decide +kernel, rfl⟩
theorem dd_Sta_blockOf_4 : Dc mi_Sta_blockOf 4 (.astore_n 2) 1 5 := ⟨by decide +kernel, rfl⟩
theorem dd_Sta_blockOf_5 : Dc mi_Sta_blockOf 5 (.aload_n 2) 1 6 := ⟨by decide +kernel, rfl⟩
theorem dd_Sta_blockOf_6 : Dc mi_Sta_blockOf 6 (.arraylength) 1 7 := ⟨by decide +kernel, rfl⟩
theorem dd_Sta_blockOf_7 : Dc mi_Sta_blockOf 7 (.istore_n 3) 1 8 := ⟨by decide +kernel, rfl⟩
theorem dd_Sta_blockOf_8 : Dc mi_Sta_blockOf 8 (.iconst 0) 1 9 := ⟨by decide +kernel, rfl⟩
theorem dd_Sta_blockOf_9 : Dc mi_Sta_blockOf 9 (.istore 4) 2 11 := ⟨by decide +kernel, rfl⟩
theorem dd_Sta_blockOf_11 : Dc mi_Sta_blockOf 11 (.iload 4) 2 13 := ⟨by decide +kernel, rfl⟩
theorem dd_Sta_blockOf_13 : Dc mi_Sta_blockOf 13 (.iload_n 3) 1 14 := ⟨by decide +kernel, rfl⟩
theorem dd_Sta_blockOf_14 : Db mi_Sta_blockOf 14 (.if_icmp .ge 35) 35 17 49 := ⟨by decide +kernel, rfl, rfl⟩
theorem dd_Sta_blockOf_17 : Dc mi_Sta_blockOf 17 (.aload_n 2) 1 18 := ⟨by decide +kernel, rfl⟩
theorem dd_Sta_blockOf_18 : Dc mi_Sta_blockOf 18 (.iload 4) 2 20 := ⟨by decide +kernel, rfl⟩
theorem dd_Sta_blockOf_20 : Dc mi_Sta_blockOf 20 (.aaload) 1 21 := ⟨by decide +kernel, rfl⟩
theorem dd_Sta_blockOf_21 : Dc mi_Sta_blockOf 21 (.astore 5) 2 23 := ⟨by decide +kernel, rfl⟩
theorem dd_Sta_blockOf_23 : Dc mi_Sta_blockOf 23 (.aload 5) 2 25 := ⟨by decide +kernel, rfl⟩
theorem dd_Sta_blockOf_25 : Dc mi_Sta_blockOf 25 (.invokevirtual 169) 3 28 := ⟨by decide +kernel, rfl⟩
theorem dd_Sta_blockOf_28 : Db mi_Sta_blockOf 28 (.ifCond .eq 15) 15 31 43 := ⟨by decide +kernel, rfl, rfl⟩
theorem dd_Sta_blockOf_31 : Dc mi_Sta_blockOf 31 (.aload 5) 2 33 := ⟨by decide +kernel, rfl⟩
theorem dd_Sta_blockOf_33 : Dc mi_Sta_blockOf 33 (.getfield 78) 3 36 := ⟨by decide +kernel, rfl⟩
theorem dd_Sta_blockOf_36 : Dc mi_Sta_blockOf 36 (.iload_n 1) 1 37 := ⟨by decide +kernel, rfl⟩
theorem dd_Sta_blockOf_37 : Db mi_Sta_blockOf 37 (.if_icmp .ne 6) 6 40 43 := ⟨by decide +kernel, rfl, rfl⟩
theorem dd_Sta_blockOf_40 : Dc mi_Sta_blockOf 40 (.aload 5) 2 42 := ⟨by decide +kernel, rfl⟩
theorem dd_Sta_blockOf_42 : decode (mbc mi_Sta_blockOf) 42 = .ok (retI (mrt mi_Sta_blockOf), 1) := by decide +kernel
theorem dd_Sta_blockOf_43 : Dc mi_Sta_blockOf 43 (.iinc 4 1) 3 46 := ⟨by decide +kernel, rfl⟩
theorem dd_Sta_blockOf_46 : Db mi_Sta_blockOf 46 (.goto (-35)) (-35) 49 11 := ⟨by decide +kernel, rfl, rfl⟩
theorem dd_Sta_blockOf_49 : Dc mi_Sta_blockOf 49 (.aconst_null) 1 50 := ⟨by decide +kernel, rfl⟩
theorem dd_Sta_blockOf_50 : decode (mbc mi_Sta_blockOf) 50 = .ok (retI (mrt mi_Sta_blockOf), 1) := by decide +kernel
theorem dd_Sta_free_0 : Dc mi_Sta_free 0 (.aload_n 0) 1 1 := ⟨by decide +kernel, rfl⟩
theorem dd_Sta_free_1 : Dc mi_Sta_free 1 (.aload_n 1) 1 2 := ⟨by decide +kernel, rfl⟩
theorem dd_Sta_free_2 : Dc mi_Sta_free 2 (.invokevirtual 163) 3 5 := ⟨by decide +kernel, rfl⟩
theorem dd_Sta_free_5 : Dc mi_Sta_free 5 (.istore_n 2) 1 6 := ⟨by decide +kernel, rfl⟩
theorem dd_Sta_free_6 : Dc mi_Sta_free 6 (.aload_n 0) 1 7 := ⟨by decide +kernel, rfl⟩
theorem dd_Sta_free_7 : Dc mi_Sta_free 7 (.dup) 1 8 := ⟨by decide +kernel, rfl⟩
theorem dd_Sta_free_8 : Dc mi_Sta_free 8 (.getfield 60) 3 11 := ⟨by decide +kernel, rfl⟩
theorem dd_Sta_free_11 : Dc mi_Sta_free 11 (.iload_n 2) 1 12 := ⟨by decide +kernel, rfl⟩
theorem dd_Sta_free_12 : Dc mi_Sta_free 12 (.iadd) 1 13 := ⟨by decide +kernel, rfl⟩
theorem dd_Sta_free_13 : Dc mi_Sta_free 13 (.putfield 60) 3 16 := ⟨by decide +kernel, rfl⟩
theorem dd_Sta_free_16 : Dc mi_Sta_free 16 (.aload_n 1) 1 17 := ⟨by decide +kernel, rfl⟩
theorem dd_Sta_free_17 : Dc mi_Sta_free 17 (.getfield 98) 3 20 := ⟨by decide +kernel, rfl⟩
theorem dd_Sta_free_20 : Dc mi_Sta_free 20 (.aload_n 1) 1 21 := ⟨by decide +kernel, rfl⟩
theorem dd_Sta_free_21 : Dc mi_Sta_free 21 (.invokevirtual 157) 3 24 := ⟨by decide +kernel, rfl⟩
theorem dd_Sta_free_24 : Dc mi_Sta_free 24 (.iadd) 1 25 := ⟨by decide +kernel, rfl⟩
theorem dd_Sta_free_25 : Dc mi_Sta_free 25 (.istore_n 3) 1 26 := ⟨by decide +kernel, rfl⟩
theorem dd_Sta_free_26 : Dc mi_Sta_free 26 (.aload_n 1) 1 27 := ⟨by decide +kernel, rfl⟩
theorem dd_Sta_free_27 : Dc mi_Sta_free 27 (.getfield 98) 3 30 := ⟨by decide +kernel, rfl⟩
theorem dd_Sta_free_30 : Dc mi_Sta_free 30 (.istore 4) 2 32 := ⟨by decide +kernel, rfl⟩
theorem dd_Sta_free_32 : Dc mi_Sta_free 32 (.iload 4) 2 34 := ⟨by decide +kernel, rfl⟩
theorem dd_Sta_free_34 : Dc mi_Sta_free 34 (.iload_n 3) 1 35 := ⟨by decide +kernel, rfl⟩
theorem dd_Sta_free_35 : Db mi_Sta_free 35 (.if_icmp .ge 16) 16 38 51 := ⟨by decide +kernel, rfl, rfl⟩
theorem dd_Sta_free_38 : Dc mi_Sta_free 38 (.aload_n 0) 1 39 := ⟨by decide +kernel, rfl⟩
theorem dd_Sta_free_39 : Dc mi_Sta_free 39 (.iload 4) 2 41 := ⟨by decide +kernel, rfl⟩
theorem dd_Sta_free_41 : Dc mi_Sta_free 41 (.iconst 0) 1 42 := ⟨by decide +kernel, rfl⟩
theorem dd_Sta_free_42 : Dc mi_Sta_free 42 (.invokevirtual 118) 3 45 := ⟨by decide +kernel, rfl⟩
theorem dd_Sta_free_45 : Dc mi_Sta_free 45 (.iinc 4 1) 3 48 := ⟨by decide +kernel, rfl⟩
theorem dd_Sta_free_48 : Db mi_Sta_free 48 (.goto (-16)) (-16) 51 32 := ⟨by decide +kernel, rfl, rfl⟩
theorem dd_Sta_free_51 : Dc mi_Sta_free 51 (.aload_n 1) 1 52 := ⟨by decide +kernel, rfl⟩
theorem dd_Sta_free_52 : Dc mi_Sta_free 52 (.iconst (-1)) 1 53 := ⟨by decide +kernel, rfl⟩
theorem dd_Sta_free_53 : Dc mi_Sta_free 53 (.putfield 75) 3 56 := ⟨by decide +kernel, rfl⟩
theorem dd_Sta_free_56 : Dc mi_Sta_free 56 (.aload_n 0) 1 57 := ⟨by decide +kernel, rfl⟩
theorem dd_Sta_free_57 : Dc mi_Sta_free 57 (.aload_n 1) 1 58 := ⟨by decide +kernel, rfl⟩
theorem dd_Sta_free_58 : Dc mi_Sta_free 58 (.invokevirtual 166) 3 61 := ⟨by decide +kernel, rfl⟩
theorem dd_Sta_free_61 : Dc mi_Sta_free 61 (.iload_n 2) 1 62 := ⟨by decide +kernel, rfl⟩
theorem dd_Sta_free_62 : decode (mbc mi_Sta_free) 62 = .ok (retI (mrt mi_Sta_free), 1) := by decide +kernel
theorem dd_Sta_brokenGuards_0 : Dc mi_Sta_brokenGuards 0 (.aload_n 0) 1 1 := ⟨by decide +kernel, rfl⟩
theorem dd_Sta_brokenGuards_1 : Dc mi_Sta_brokenGuards 1 (.aload_n 1) 1 2 := ⟨by decide +kernel, rfl⟩
theorem dd_Sta_brokenGuards_2 : Dc mi_Sta_brokenGuards 2 (.getfield 98) 3 5 := ⟨by decide +kernel, rfl⟩
theorem dd_Sta_brokenGuards_5 : Dc mi_Sta_brokenGuards 5 (.invokevirtual 112) 3 8 := ⟨by decide +kernel, rfl⟩
theorem dd_Sta_brokenGuards_8 : Db mi_Sta_brokenGuards 8 (.ifCond .ne 7) 7 11 15 := ⟨by decide +kernel, rfl, rfl⟩
theorem dd_Sta_brokenGuards_11 : Dc mi_Sta_brokenGuards 11 (.iconst 0) 1 12 := ⟨by decide +kernel, rfl⟩
theorem dd_Sta_brokenGuards_12 : Db mi_Sta_brokenGuards 12 (.goto 4) 4 15 16 := ⟨by decide +kernel, rfl, rfl⟩
theorem dd_Sta_brokenGuards_15 : Dc mi_Sta_brokenGuards 15 (.iconst 1) 1 16 := ⟨by decide +kernel, rfl⟩
theorem dd_Sta_brokenGuards_16 : Dc mi_Sta_brokenGuards 16 (.istore_n 2) 1 17 := ⟨by decide +kernel, rfl⟩
theorem dd_Sta_brokenGuards_17 : Dc mi_Sta_brokenGuards 17 (.aload_n 0) 1 18 := ⟨by decide +kernel, rfl⟩
theorem dd_Sta_brokenGuards_18 : Dc mi_Sta_brokenGuards 18 (.aload_n 1) 1 19 := ⟨by decide +kernel, rfl⟩
theorem dd_Sta_brokenGuards_19 : Dc mi_Sta_brokenGuards 19 (.invokevirtual 182) 3 22 := ⟨by decide +kernel, rfl⟩
theorem dd_Sta_brokenGuards_22 : Dc mi_Sta_brokenGuards 22 (.invokevirtual 112) 3 25 := ⟨by decide +kernel, rfl⟩
theorem dd_Sta_brokenGuards_25 : Db mi_Sta_brokenGuards 25 (.ifCond .ne 7) 7 28 32 := ⟨by decide +kernel, rfl, rfl⟩
theorem dd_Sta_brokenGuards_28 : Dc mi_Sta_brokenGuards 28 (.iconst 0) 1 29 := ⟨by decide +kernel, rfl⟩
theorem dd_Sta_brokenGuards_29 : Db mi_Sta_brokenGuards 29 (.goto 4) 4 32 33 := ⟨by decide +kernel, rfl, rfl⟩
theorem dd_Sta_brokenGuards_32 : Dc mi_Sta_brokenGuards 32 (.iconst 1) 1 33 := ⟨by decide +kernel, rfl⟩
theorem dd_Sta_brokenGuards_33 : Dc mi_Sta_brokenGuards 33 (.istore_n 3) 1 34 := ⟨by decide +kernel, rfl⟩
theorem dd_Sta_brokenGuards_34 : Dc mi_Sta_brokenGuards 34 (.iload_n 2) 1 35 := ⟨by decide +kernel, rfl⟩
theorem dd_Sta_brokenGuards_35 : Dc mi_Sta_brokenGuards 35 (.iload_n 3) 1 36 := ⟨by decide +kernel, rfl⟩
theorem dd_Sta_brokenGuards_36 : Dc mi_Sta_brokenGuards 36 (.iadd) 1 37 := ⟨by decide +kernel, rfl⟩
theorem dd_Sta_brokenGuards_37 : decode (mbc mi_Sta_brokenGuards) 37 = .ok (retI (mrt mi_Sta_brokenGuards), 1) := by decide +kernel
theorem dd_Sta_valueAt_0 : Dc mi_Sta_valueAt 0 (.iload_n 1) 1 1 := ⟨by decide +kernel, rfl⟩
theorem dd_Sta_valueAt_1 : Db mi_Sta_valueAt 1 (.ifCond .lt 9) 9 4 10 := ⟨by decide +kernel, rfl, rfl⟩
theorem dd_Sta_valueAt_4 : Dc mi_Sta_valueAt 4 (.iload_n 1) 1 5 := ⟨by decide +kernel, rfl⟩
theorem dd_Sta_valueAt_5 : Dc mi_Sta_valueAt 5 (.bipush 64) 2 7 := ⟨by decide +kernel, rfl⟩
theorem dd_Sta_valueAt_7 : Db mi_Sta_valueAt 7 (.if_icmp .lt 7) 7 10 14 := ⟨by decide +kernel, rfl, rfl⟩
theorem dd_Sta_valueAt_10 : Dc mi_Sta_valueAt 10 (.iconst 0) 1 11 := ⟨by decide +kernel, rfl⟩
theorem dd_Sta_valueAt_11 : Db mi_Sta_valueAt 11 (.goto 9) 9 14 20 := ⟨by decide +kernel, rfl, rfl⟩
theorem dd_Sta_valueAt_14 : Dc mi_Sta_valueAt 14 (.aload_n 0) 1 15 := ⟨by decide +kernel, rfl⟩
theorem dd_Sta_valueAt_15 : Dc mi_Sta_valueAt 15 (.getfield 20) 3 18 := ⟨by decide +kernel, rfl⟩
theorem dd_Sta_valueAt_18 : Dc mi_Sta_valueAt 18 (.iload_n 1) 1 19 := ⟨by decide +kernel, rfl⟩
theorem dd_Sta_valueAt_19 : Dc mi_Sta_valueAt 19 (.iaload) 1 20 := ⟨by decide +kernel, rfl⟩
theorem dd_Sta_valueAt_20 : decode (mbc mi_Sta_valueAt) 20 = .ok (retI (mrt mi_Sta_valueAt), 1) := by decide +kernel
theorem dd_Sta_setValue_0 : Dc mi_Sta_setValue 0 (.iload_n 1) 1 1 := ⟨by decide +kernel, rfl⟩
theorem dd_Sta_setValue_1 : Db mi_Sta_setValue 1 (.ifCond .lt 16) 16 4 17 := ⟨by decide +kernel, rfl, rfl⟩
theorem dd_Sta_setValue_4 : Dc mi_Sta_setValue 4 (.iload_n 1) 1 5 := ⟨by decide +kernel, rfl⟩
theorem dd_Sta_setValue_5 : Dc mi_Sta_setValue 5 (.bipush 64) 2 7 := ⟨by decide +kernel, rfl⟩
theorem dd_Sta_setValue_7 : Db mi_Sta_setValue 7 (.if_icmp .ge 10) 10 10 17 := ⟨by decide +kernel, rfl, rfl⟩
theorem dd_Sta_setValue_10 : Dc mi_Sta_setValue 10 (.aload_n 0) 1 11 := ⟨by decide +kernel, rfl⟩
theorem dd_Sta_setValue_11 : Dc mi_Sta_setValue 11 (.getfield 20) 3 14 := ⟨by decide +kernel, rfl⟩
theorem dd_Sta_setValue_14 : Dc mi_Sta_setValue 14 (.iload_n 1) 1 15 := ⟨by decide +kernel, rfl⟩
theorem dd_Sta_setValue_15 : Dc mi_Sta_setValue 15 (.iload_n 2) 1 16 := ⟨by decide +kernel, rfl⟩
theorem dd_Sta_setValue_16 : Dc mi_Sta_setValue 16 (.iastore) 1 17 := ⟨by decide +kernel, rfl⟩
theorem dd_Sta_setValue_17 : decode (mbc mi_Sta_setValue) 17 = .ok (retI (mrt mi_Sta_setValue), 1) := by decide +kernel
theorem dd_Sta_joinTwins_0 : Dc mi_Sta_joinTwins 0 (.aload_n 1) 1 1 := ⟨by decide +kernel, rfl⟩
theorem dd_Sta_joinTwins_1 : Dc mi_Sta_joinTwins 1 (.astore_n 2) 1 2 := ⟨by decide +kernel, rfl⟩
theorem dd_Sta_joinTwins_2 : Dc mi_Sta_joinTwins 2 (.aload_n 1) 1 3 := ⟨by decide +kernel, rfl⟩
theorem dd_Sta_joinTwins_3 : Dc mi_Sta_joinTwins 3 (.getfield 151) 3 6 := ⟨by decide +kernel, rfl⟩
theorem dd_Sta_joinTwins_6 : Dc mi_Sta_joinTwins 6 (.istore_n 3) 1 7 := ⟨by decide +kernel, rfl⟩
theorem dd_Sta_joinTwins_7 : Dc mi_Sta_joinTwins 7 (.iload_n 3) 1 8 := ⟨by decide +kernel, rfl⟩
theorem dd_Sta_joinTwins_8 : Dc mi_Sta_joinTwins 8 (.iconst 2) 1 9 := ⟨by decide +kernel, rfl⟩
theorem dd_Sta_joinTwins_9 : Db mi_Sta_joinTwins 9 (.if_icmp .ge 84) 84 12 93 := ⟨by decide +kernel, rfl, rfl⟩
theorem dd_Sta_joinTwins_12 : Dc mi_Sta_joinTwins 12 (.aload_n 0) 1 13 := ⟨by decide +kernel, rfl⟩
theorem dd_Sta_joinTwins_13 : Dc mi_Sta_joinTwins 13 (.aload_n 2) 1 14 := ⟨by decide +kernel, rfl⟩
theorem dd_Sta_joinTwins_14 : Dc mi_Sta_joinTwins 14 (.getfield 98) 3 17 := ⟨by decide +kernel, rfl⟩
theorem dd_Sta_joinTwins_17 : Dc mi_Sta_joinTwins 17 (.iload_n 3) 1 18 := ⟨by decide +kernel, rfl⟩
theorem dd_Sta_joinTwins_18 : Dc mi_Sta_joinTwins 18 (.invokestatic 138) 3 21 := ⟨by decide +kernel, rfl⟩
theorem dd_Sta_joinTwins_21 : Dc mi_Sta_joinTwins 21 (.ixor) 1 22 := ⟨by decide +kernel, rfl⟩
theorem dd_Sta_joinTwins_22 : Dc mi_Sta_joinTwins 22 (.invokevirtual 160) 3 25 := ⟨by decide +kernel, rfl⟩
theorem dd_Sta_joinTwins_25 : Dc mi_Sta_joinTwins 25 (.astore 4) 2 27 := ⟨by decide +kernel, rfl⟩
theorem dd_Sta_joinTwins_27 : Dc mi_Sta_joinTwins 27 (.aload 4) 2 29 := ⟨by decide +kernel, rfl⟩
theorem dd_Sta_joinTwins_29 : Db mi_Sta_joinTwins 29 (.ifnull 12) 12 32 41 := ⟨by decide +kernel, rfl, rfl⟩
theorem dd_Sta_joinTwins_32 : Dc mi_Sta_joinTwins 32 (.aload 4) 2 34 := ⟨by decide +kernel, rfl⟩
theorem dd_Sta_joinTwins_34 : Dc mi_Sta_joinTwins 34 (.iload_n 3) 1 35 := ⟨by decide +kernel, rfl⟩
theorem dd_Sta_joinTwins_35 : Dc mi_Sta_joinTwins 35 (.invokevirtual 141) 3 38 := ⟨by decide +kernel, rfl⟩
theorem dd_Sta_joinTwins_38 : Db mi_Sta_joinTwins 38 (.ifCond .ne 4) 4 41 42 := ⟨by decide +kernel, rfl, rfl⟩
theorem dd_Sta_joinTwins_41 : decode (mbc mi_Sta_joinTwins) 41 = .ok (retI (mrt mi_Sta_joinTwins), 1) := by decide +kernel
theorem dd_Sta_joinTwins_42 : Dc mi_Sta_joinTwins 42 (.aload 4) 2 44 := ⟨by decide +kernel, rfl⟩
theorem dd_Sta_joinTwins_44 : Dc mi_Sta_joinTwins 44 (.astore 5) 2 46 := ⟨by decide +kernel, rfl⟩
theorem dd_Sta_joinTwins_46 : Dc mi_Sta_joinTwins 46 (.aload 4) 2 48 := ⟨by decide +kernel, rfl⟩
theorem dd_Sta_joinTwins_48 : Dc mi_Sta_joinTwins 48 (.getfield 98) 3 51 := ⟨by decide +kernel, rfl⟩
theorem dd_Sta_joinTwins_51 : Dc mi_Sta_joinTwins 51 (.aload_n 2) 1 52 := ⟨by decide +kernel, rfl⟩
theorem dd_Sta_joinTwins_52 : Dc mi_Sta_joinTwins 52 (.getfield 98) 3 55 := ⟨by decide +kernel, rfl⟩
theorem dd_Sta_joinTwins_55 : Db mi_Sta_joinTwins 55 (.if_icmp .ge 9) 9 58 64 := ⟨by decide +kernel, rfl, rfl⟩
theorem dd_Sta_joinTwins_58 : Dc mi_Sta_joinTwins 58 (.aload_n 2) 1 59 := ⟨by decide +kernel, rfl⟩
theorem dd_Sta_joinTwins_59 : Dc mi_Sta_joinTwins 59 (.astore 5) 2 61 := ⟨by decide +kernel, rfl⟩
theorem dd_Sta_joinTwins_61 : Dc mi_Sta_joinTwins 61 (.aload 4) 2 63 := ⟨by decide +kernel, rfl⟩
theorem dd_Sta_joinTwins_63 : Dc mi_Sta_joinTwins 63 (.astore_n 2) 1 64 := ⟨by decide +kernel, rfl⟩
theorem dd_Sta_joinTwins_64 : Dc mi_Sta_joinTwins 64 (.aload 5) 2 66 := ⟨by decide +kernel, rfl⟩
theorem dd_Sta_joinTwins_66 : Dc mi_Sta_joinTwins 66 (.iconst (-1)) 1 67 := ⟨by decide +kernel, rfl⟩
theorem dd_Sta_joinTwins_67 : Dc mi_Sta_joinTwins 67 (.putfield 151) 3 70 := ⟨by decide +kernel, rfl⟩
theorem dd_Sta_joinTwins_70 : Dc mi_Sta_joinTwins 70 (.aload_n 2) 1 71 := ⟨by decide +kernel, rfl⟩
theorem dd_Sta_joinTwins_71 : Dc mi_Sta_joinTwins 71 (.iload_n 3) 1 72 := ⟨by decide +kernel, rfl⟩
theorem dd_Sta_joinTwins_72 : Dc mi_Sta_joinTwins 72 (.iconst 1) 1 73 := ⟨by decide +kernel, rfl⟩
theorem dd_Sta_joinTwins_73 : Dc mi_Sta_joinTwins 73 (.iadd) 1 74 := ⟨by decide +kernel, rfl⟩
theorem dd_Sta_joinTwins_74 : Dc mi_Sta_joinTwins 74 (.putfield 151) 3 77 := ⟨by decide +kernel, rfl⟩
theorem dd_Sta_joinTwins_77 : Dc mi_Sta_joinTwins 77 (.aload_n 0) 1 78 := ⟨by decide +kernel, rfl⟩
theorem dd_Sta_joinTwins_78 : Dc mi_Sta_joinTwins 78 (.dup) 1 79 := ⟨by decide +kernel, rfl⟩
theorem dd_Sta_joinTwins_79 : Dc mi_Sta_joinTwins 79 (.getfield 57) 3 82 := ⟨by decide +kernel, rfl⟩
theorem dd_Sta_joinTwins_82 : Dc mi_Sta_joinTwins 82 (.iconst 1) 1 83 := ⟨by decide +kernel, rfl⟩
theorem dd_Sta_joinTwins_83 : Dc mi_Sta_joinTwins 83 (.iadd) 1 84 := ⟨by decide +kernel, rfl⟩
theorem dd_Sta_joinTwins_84 : Dc mi_Sta_joinTwins 84 (.putfield 57) 3 87 := ⟨by decide +kernel, rfl⟩
theorem dd_Sta_joinTwins_87 : Dc mi_Sta_joinTwins 87 (.iinc 3 1) 3 90 := ⟨by decide +kernel, rfl⟩
theorem dd_Sta_joinTwins_90 : Db mi_Sta_joinTwins 90 (.goto (-83)) (-83) 93 7 := ⟨by decide +kernel, rfl, rfl⟩
theorem dd_Sta_joinTwins_93 : decode (mbc mi_Sta_joinTwins) 93 = .ok (retI (mrt mi_Sta_joinTwins), 1) := by decide +kernel
theorem dd_Sta_put_0 : Dc mi_Sta_put 0 (.aload_n 0) 1 1 := ⟨by decide +kernel, rfl⟩
theorem dd_Sta_put_1 : Dc mi_Sta_put 1 (.iload_n 1) 1 2 := ⟨by decide +kernel, rfl⟩
theorem dd_Sta_put_2 : Dc mi_Sta_put 2 (.invokevirtual 90) 3 5 := ⟨by decide +kernel, rfl⟩
theorem dd_Sta_put_5 : Dc mi_Sta_put 5 (.astore 5) 2 7 := ⟨by decide +kernel, rfl⟩
theorem dd_Sta_put_7 : Dc mi_Sta_put 7 (.aload_n 0) 1 8 := ⟨by decide +kernel, rfl⟩
theorem dd_Sta_put_8 : Dc mi_Sta_put 8 (.iload_n 2) 1 9 := ⟨by decide +kernel, rfl⟩
theorem dd_Sta_put_9 : Dc mi_Sta_put 9 (.invokevirtual 87) 3 12 := ⟨by decide +kernel, rfl⟩
theorem dd_Sta_put_12 : Dc mi_Sta_put 12 (.astore 6) 2 14 := ⟨by decide +kernel, rfl⟩
theorem dd_Sta_put_14 : Dc mi_Sta_put 14 (.aload 5) 2 16 := ⟨by decide +kernel, rfl⟩
theorem dd_Sta_put_16 : Db mi_Sta_put 16 (.ifnull 8) 8 19 24 := ⟨by decide +kernel, rfl, rfl⟩
theorem dd_Sta_put_19 : Dc mi_Sta_put 19 (.aload 6) 2 21 := ⟨by decide +kernel, rfl⟩
theorem dd_Sta_put_21 : Db mi_Sta_put 21 (.ifnonnull 5) 5 24 26 := ⟨by decide +kernel, rfl, rfl⟩
theorem dd_Sta_put_24 : Dc mi_Sta_put 24 (.iconst (-1)) 1 25 := ⟨by decide +kernel, rfl⟩
theorem dd_Sta_put_25 : decode (mbc mi_Sta_put) 25 = .ok (retI (mrt mi_Sta_put), 1) := by decide +kernel
theorem dd_Sta_put_26 : Dc mi_Sta_put 26 (.iload_n 3) 1 27 := ⟨by decide +kernel, rfl⟩
theorem dd_Sta_put_27 : Dc mi_Sta_put 27 (.bipush (-64)) 2 29 := ⟨by decide +kernel, rfl⟩
theorem dd_Sta_put_29 : Db mi_Sta_put 29 (.if_icmp .lt 22) 22 32 51 := ⟨by decide +kernel, rfl, rfl⟩
theorem dd_Sta_put_32 : Dc mi_Sta_put 32 (.iload_n 3) 1 33 := ⟨by decide +kernel, rfl⟩
theorem dd_Sta_put_33 : Dc mi_Sta_put 33 (.bipush 64) 2 35 := ⟨by decide +kernel, rfl⟩
theorem dd_Sta_put_35 : Db mi_Sta_put 35 (.if_icmp .gt 16) 16 38 51 := ⟨by decide +kernel, rfl, rfl⟩
theorem dd_Sta_put_38 : Dc mi_Sta_put 38 (.iload 4) 2 40 := ⟨by decide +kernel, rfl⟩
theorem dd_Sta_put_40 : Dc mi_Sta_put 40 (.iconst 1) 1 41 := ⟨by decide +kernel, rfl⟩
theorem dd_Sta_put_41 : Db mi_Sta_put 41 (.if_icmp .lt 10) 10 44 51 := ⟨by decide +kernel, rfl, rfl⟩
theorem dd_Sta_put_44 : Dc mi_Sta_put 44 (.iload 4) 2 46 := ⟨by decide +kernel, rfl⟩
theorem dd_Sta_put_46 : Dc mi_Sta_put 46 (.bipush 99) 2 48 := ⟨by decide +kernel, rfl⟩
theorem dd_Sta_put_48 : Db mi_Sta_put 48 (.if_icmp .le 6) 6 51 54 := ⟨by decide +kernel, rfl, rfl⟩
theorem dd_Sta_put_51 : Dc mi_Sta_put 51 (.bipush (-2)) 2 53 := ⟨by decide +kernel, rfl⟩
theorem dd_Sta_put_53 : decode (mbc mi_Sta_put) 53 = .ok (retI (mrt mi_Sta_put), 1) := by decide +kernel
theorem dd_Sta_put_54 : Dc mi_Sta_put 54 (.aload 6) 2 56 := ⟨by decide +kernel, rfl⟩
theorem dd_Sta_put_56 : Dc mi_Sta_put 56 (.getfield 98) 3 59 := ⟨by decide +kernel, rfl⟩
theorem dd_Sta_put_59 : Dc mi_Sta_put 59 (.iconst 1) 1 60 := ⟨by decide +kernel, rfl⟩
theorem dd_Sta_put_60 : Dc mi_Sta_put 60 (.iadd) 1 61 := ⟨by decide +kernel, rfl⟩
theorem dd_Sta_put_61 : Dc mi_Sta_put 61 (.iload_n 3) 1 62 := ⟨by decide +kernel, rfl⟩
theorem dd_Sta_put_62 : Dc mi_Sta_put 62 (.iadd) 1 63 := ⟨by decide +kernel, rfl⟩
theorem dd_Sta_put_63 : Dc mi_Sta_put 63 (.istore 7) 2 65 := ⟨by decide +kernel, rfl⟩
theorem dd_Sta_put_65 : Dc mi_Sta_put 65 (.aload_n 0) 1 66 := ⟨by decide +kernel, rfl⟩
theorem dd_Sta_put_66 : Dc mi_Sta_put 66 (.iload 7) 2 68 := ⟨by decide +kernel, rfl⟩
theorem dd_Sta_put_68 : Dc mi_Sta_put 68 (.invokevirtual 101) 3 71 := ⟨by decide +kernel, rfl⟩
theorem dd_Sta_put_71 : Dc mi_Sta_put 71 (.astore 8) 2 73 := ⟨by decide +kernel, rfl⟩
theorem dd_Sta_put_73 : Dc mi_Sta_put 73 (.aload 6) 2 75 := ⟨by decide +kernel, rfl⟩
theorem dd_Sta_put_75 : Dc mi_Sta_put 75 (.getfield 75) 3 78 := ⟨by decide +kernel, rfl⟩
theorem dd_Sta_put_78 : Dc mi_Sta_put 78 (.iload_n 1) 1 79 := ⟨by decide +kernel, rfl⟩
theorem dd_Sta_put_79 : Db mi_Sta_put 79 (.if_icmp .ne 16) 16 82 95 := ⟨by decide +kernel, rfl, rfl⟩
theorem dd_Sta_put_82 : Dc mi_Sta_put 82 (.aload 5) 2 84 := ⟨by decide +kernel, rfl⟩
theorem dd_Sta_put_84 : Dc mi_Sta_put 84 (.getfield 104) 3 87 := ⟨by decide +kernel, rfl⟩
theorem dd_Sta_put_87 : Db mi_Sta_put 87 (.ifCond .eq 8) 8 90 95 := ⟨by decide +kernel, rfl, rfl⟩
theorem dd_Sta_put_90 : Dc mi_Sta_put 90 (.aload 8) 2 92 := ⟨by decide +kernel, rfl⟩
theorem dd_Sta_put_92 : Db mi_Sta_put 92 (.ifnonnull 6) 6 95 98 := ⟨by decide +kernel, rfl, rfl⟩
theorem dd_Sta_put_95 : Dc mi_Sta_put 95 (.bipush (-4)) 2 97 := ⟨by decide +kernel, rfl⟩
theorem dd_Sta_put_97 : decode (mbc mi_Sta_put) 97 = .ok (retI (mrt mi_Sta_put), 1) := by decide +kernel
theorem dd_Sta_put_98 : Dc mi_Sta_put 98 (.aload 6) 2 100 := ⟨by decide +kernel, rfl⟩
theorem dd_Sta_put_100 : Dc mi_Sta_put 100 (.aload_n 0) 1 101 := ⟨by decide +kernel, rfl⟩
theorem dd_Sta_put_101 : Dc mi_Sta_put 101 (.getfield 48) 3 104 := ⟨by decide +kernel, rfl⟩
theorem dd_Sta_put_104 : Dc mi_Sta_put 104 (.putfield 84) 3 107 := ⟨by decide +kernel, rfl⟩
theorem dd_Sta_put_107 : Dc mi_Sta_put 107 (.iload 7) 2 109 := ⟨by decide +kernel, rfl⟩
theorem dd_Sta_put_109 : Dc mi_Sta_put 109 (.aload 6) 2 111 := ⟨by decide +kernel, rfl⟩
theorem dd_Sta_put_111 : Dc mi_Sta_put 111 (.aload 8) 2 113 := ⟨by decide +kernel, rfl⟩
theorem dd_Sta_put_113 : Dc mi_Sta_put 113 (.invokestatic 108) 3 116 := ⟨by decide +kernel, rfl⟩
theorem dd_Sta_put_116 : Dc mi_Sta_put 116 (.istore 9) 2 118 := ⟨by decide +kernel, rfl⟩
theorem dd_Sta_put_118 : Dc mi_Sta_put 118 (.iload 9) 2 120 := ⟨by decide +kernel, rfl⟩
theorem dd_Sta_put_120 : Dc mi_Sta_put 120 (.iconst 2) 1 121 := ⟨by decide +kernel, rfl⟩
theorem dd_Sta_put_121 : Db mi_Sta_put 121 (.if_icmp .ne 23) 23 124 144 := ⟨by decide +kernel, rfl, rfl⟩
theorem dd_Sta_put_124 : Dc mi_Sta_put 124 (.aload_n 0) 1 125 := ⟨by decide +kernel, rfl⟩
theorem dd_Sta_put_125 : Dc mi_Sta_put 125 (.iload 7) 2 127 := ⟨by decide +kernel, rfl⟩
theorem dd_Sta_put_127 : Dc mi_Sta_put 127 (.invokevirtual 112) 3 130 := ⟨by decide +kernel, rfl⟩
theorem dd_Sta_put_130 : Db mi_Sta_put 130 (.ifCond .ne 14) 14 133 144 := ⟨by decide +kernel, rfl, rfl⟩
theorem dd_Sta_put_133 : Dc mi_Sta_put 133 (.aload 5) 2 135 := ⟨by decide +kernel, rfl⟩
theorem dd_Sta_put_135 : Dc mi_Sta_put 135 (.dup) 1 136 := ⟨by decide +kernel, rfl⟩
theorem dd_Sta_put_136 : Dc mi_Sta_put 136 (.getfield 115) 3 139 := ⟨by decide +kernel, rfl⟩
theorem dd_Sta_put_139 : Dc mi_Sta_put 139 (.iconst 1) 1 140 := ⟨by decide +kernel, rfl⟩
theorem dd_Sta_put_140 : Dc mi_Sta_put 140 (.iadd) 1 141 := ⟨by decide +kernel, rfl⟩
theorem dd_Sta_put_141 : Dc mi_Sta_put 141 (.putfield 115) 3 144 := ⟨by decide +kernel, rfl⟩
theorem dd_Sta_put_144 : Dc mi_Sta_put 144 (.iload 9) 2 146 := ⟨by decide +kernel, rfl⟩
theorem dd_Sta_put_146 : Dc mi_Sta_put 146 (.iconst 3) 1 147 := ⟨by decide +kernel, rfl⟩
theorem dd_Sta_put_147 : Db mi_Sta_put 147 (.if_icmp .eq 11) 11 150 158 := ⟨by decide +kernel, rfl, rfl⟩
theorem dd_Sta_put_150 : Dc mi_Sta_put 150 (.aload_n 0) 1 151 := ⟨by decide +kernel, rfl⟩
theorem dd_Sta_put_151 : Dc mi_Sta_put 151 (.iload 7) 2 153 := ⟨by decide +kernel, rfl⟩
theorem dd_Sta_put_153 : Dc mi_Sta_put 153 (.iload 4) 2 155 := ⟨by decide +kernel, rfl⟩
theorem dd_Sta_put_155 : Dc mi_Sta_put 155 (.invokevirtual 118) 3 158 := ⟨by decide +kernel, rfl⟩
theorem dd_Sta_put_158 : Dc mi_Sta_put 158 (.iload 9) 2 160 := ⟨by decide +kernel, rfl⟩
theorem dd_Sta_put_160 : decode (mbc mi_Sta_put) 160 = .ok (retI (mrt mi_Sta_put), 1) := by decide +kernel
theorem dd_Sta_blockAt_0 : Dc mi_Sta_blockAt 0 (.aload_n 0) 1 1 := ⟨by decide +kernel, rfl⟩
theorem dd_Sta_blockAt_1 : Dc mi_Sta_blockAt 1 (.getfield 11) 3 4 := ⟨by decide +kernel, rfl⟩
theorem dd_Sta_blockAt_4 : Dc mi_Sta_blockAt 4 (.astore_n 2) 1 5 := ⟨by decide +kernel, rfl⟩
theorem dd_Sta_blockAt_5 : Dc mi_Sta_blockAt 5 (.aload_n 2) 1 6 := ⟨by decide +kernel, rfl⟩
theorem dd_Sta_blockAt_6 : Dc mi_Sta_blockAt 6 (.arraylength) 1 7 := ⟨by decide +kernel, rfl⟩
theorem dd_Sta_blockAt_7 : Dc mi_Sta_blockAt 7 (.istore_n 3) 1 8 := ⟨by decide +kernel, rfl⟩
theorem dd_Sta_blockAt_8 : Dc mi_Sta_blockAt 8 (.iconst 0) 1 9 := ⟨by decide +kernel, rfl⟩
theorem dd_Sta_blockAt_9 : Dc mi_Sta_blockAt 9 (.istore 4) 2 11 := ⟨by decide +kernel, rfl⟩
theorem dd_Sta_blockAt_11 : Dc mi_Sta_blockAt 11 (.iload 4) 2 13 := ⟨by decide +kernel, rfl⟩
theorem dd_Sta_blockAt_13 : Dc mi_Sta_blockAt 13 (.iload_n 3) 1 14 := ⟨by decide +kernel, rfl⟩
theorem dd_Sta_blockAt_14 : Db mi_Sta_blockAt 14 (.if_icmp .ge 27) 27 17 41 := ⟨by decide +kernel, rfl, rfl⟩
theorem dd_Sta_blockAt_17 : Dc mi_Sta_blockAt 17 (.aload_n 2) 1 18 := ⟨by decide +kernel, rfl⟩
theorem dd_Sta_blockAt_18 : Dc mi_Sta_blockAt 18 (.iload 4) 2 20 := ⟨by decide +kernel, rfl⟩
theorem dd_Sta_blockAt_20 : Dc mi_Sta_blockAt 20 (.aaload) 1 21 := ⟨by decide +kernel, rfl⟩
theorem dd_Sta_blockAt_21 : Dc mi_Sta_blockAt 21 (.astore 5) 2 23 := ⟨by decide +kernel, rfl⟩
theorem dd_Sta_blockAt_23 : Dc mi_Sta_blockAt 23 (.aload 5) 2 25 := ⟨by decide +kernel, rfl⟩
theorem dd_Sta_blockAt_25 : Dc mi_Sta_blockAt 25 (.iload_n 1) 1 26 := ⟨by decide +kernel, rfl⟩
theorem dd_Sta_blockAt_26 : Dc mi_Sta_blockAt 26 (.invokevirtual 173) 3 29 := ⟨by decide +kernel, rfl⟩
theorem dd_Sta_blockAt_29 : Db mi_Sta_blockAt 29 (.ifCond .eq 6) 6 32 35 := ⟨by decide +kernel, rfl, rfl⟩
theorem dd_Sta_blockAt_32 : Dc mi_Sta_blockAt 32 (.aload 5) 2 34 := ⟨by decide +kernel, rfl⟩
theorem dd_Sta_blockAt_34 : decode (mbc mi_Sta_blockAt) 34 = .ok (retI (mrt mi_Sta_blockAt), 1) := by decide +kernel
theorem dd_Sta_blockAt_35 : Dc mi_Sta_blockAt 35 (.iinc 4 1) 3 38 := ⟨by decide +kernel, rfl⟩
theorem dd_Sta_blockAt_38 : Db mi_Sta_blockAt 38 (.goto (-27)) (-27) 41 11 := ⟨by decide +kernel, rfl, rfl⟩
theorem dd_Sta_blockAt_41 : Dc mi_Sta_blockAt 41 (.aconst_null) 1 42 := ⟨by decide +kernel, rfl⟩
theorem dd_Sta_blockAt_42 : decode (mbc mi_Sta_blockAt) 42 = .ok (retI (mrt mi_Sta_blockAt), 1) := by decide +kernel
theorem dd_Sta_kindOfHit_0 : Dc mi_Sta_kindOfHit 0 (.aload_n 2) 1 1 := ⟨by decide +kernel, rfl⟩
theorem dd_Sta_kindOfHit_1 : Dc mi_Sta_kindOfHit 1 (.invokevirtual 169) 3 4 := ⟨by decide +kernel, rfl⟩
theorem dd_Sta_kindOfHit_4 : Db mi_Sta_kindOfHit 4 (.ifCond .ne 5) 5 7 9 := ⟨by decide +kernel, rfl, rfl⟩
theorem dd_Sta_kindOfHit_7 : Dc mi_Sta_kindOfHit 7 (.iconst 3) 1 8 := ⟨by decide +kernel, rfl⟩
theorem dd_Sta_kindOfHit_8 : decode (mbc mi_Sta_kindOfHit) 8 = .ok (retI (mrt mi_Sta_kindOfHit), 1) := by decide +kernel
theorem dd_Sta_kindOfHit_9 : Dc mi_Sta_kindOfHit 9 (.aload_n 2) 1 10 := ⟨by decide +kernel, rfl⟩
theorem dd_Sta_kindOfHit_10 : Dc mi_Sta_kindOfHit 10 (.iload_n 0) 1 11 := ⟨by decide +kernel, rfl⟩
theorem dd_Sta_kindOfHit_11 : Dc mi_Sta_kindOfHit 11 (.invokevirtual 176) 3 14 := ⟨by decide +kernel, rfl⟩
theorem dd_Sta_kindOfHit_14 : Db mi_Sta_kindOfHit 14 (.ifCond .eq 5) 5 17 19 := ⟨by decide +kernel, rfl, rfl⟩
theorem dd_Sta_kindOfHit_17 : Dc mi_Sta_kindOfHit 17 (.iconst 2) 1 18 := ⟨by decide +kernel, rfl⟩
theorem dd_Sta_kindOfHit_18 : decode (mbc mi_Sta_kindOfHit) 18 = .ok (retI (mrt mi_Sta_kindOfHit), 1) := by decide +kernel
theorem dd_Sta_kindOfHit_19 : Dc mi_Sta_kindOfHit 19 (.aload_n 2) 1 20 := ⟨by decide +kernel, rfl⟩
theorem dd_Sta_kindOfHit_20 : Dc mi_Sta_kindOfHit 20 (.aload_n 1) 1 21 := ⟨by decide +kernel, rfl⟩
theorem dd_Sta_kindOfHit_21 : Db mi_Sta_kindOfHit 21 (.if_acmp .eq 5) 5 24 26 := ⟨by decide +kernel, rfl, rfl⟩
theorem dd_Sta_kindOfHit_24 : Dc mi_Sta_kindOfHit 24 (.iconst 1) 1 25 := ⟨by decide +kernel, rfl⟩
theorem dd_Sta_kindOfHit_25 : decode (mbc mi_Sta_kindOfHit) 25 = .ok (retI (mrt mi_Sta_kindOfHit), 1) := by decide +kernel
theorem dd_Sta_kindOfHit_26 : Dc mi_Sta_kindOfHit 26 (.aload_n 2) 1 27 := ⟨by decide +kernel, rfl⟩
theorem dd_Sta_kindOfHit_27 : Dc mi_Sta_kindOfHit 27 (.iload_n 0) 1 28 := ⟨by decide +kernel, rfl⟩
theorem dd_Sta_kindOfHit_28 : Dc mi_Sta_kindOfHit 28 (.invokevirtual 179) 3 31 := ⟨by decide +kernel, rfl⟩
theorem dd_Sta_kindOfHit_31 : Db mi_Sta_kindOfHit 31 (.ifCond .eq 7) 7 34 38 := ⟨by decide +kernel, rfl, rfl⟩
theorem dd_Sta_kindOfHit_34 : Dc mi_Sta_kindOfHit 34 (.iconst 0) 1 35 := ⟨by decide +kernel, rfl⟩
theorem dd_Sta_kindOfHit_35 : Db mi_Sta_kindOfHit 35 (.goto 4) 4 38 39 := ⟨by decide +kernel, rfl, rfl⟩
theorem dd_Sta_kindOfHit_38 : Dc mi_Sta_kindOfHit 38 (.iconst 4) 1 39 := ⟨by decide +kernel, rfl⟩
theorem dd_Sta_kindOfHit_39 : decode (mbc mi_Sta_kindOfHit) 39 = .ok (retI (mrt mi_Sta_kindOfHit), 1) := by decide +kernel
theorem dd_Sta_useNow_0 : Dc mi_Sta_useNow 0 (.aload_n 0) 1 1 := ⟨by decide +kernel, rfl⟩
theorem dd_Sta_useNow_1 : Dc mi_Sta_useNow 1 (.iload_n 1) 1 2 := ⟨by decide +kernel, rfl⟩
theorem dd_Sta_useNow_2 : Dc mi_Sta_useNow 2 (.invokevirtual 87) 3 5 := ⟨by decide +kernel, rfl⟩
theorem dd_Sta_useNow_5 : Dc mi_Sta_useNow 5 (.astore_n 2) 1 6 := ⟨by decide +kernel, rfl⟩
theorem dd_Sta_useNow_6 : Dc mi_Sta_useNow 6 (.aload_n 2) 1 7 := ⟨by decide +kernel, rfl⟩
theorem dd_Sta_useNow_7 : Db mi_Sta_useNow 7 (.ifnonnull 5) 5 10 12 := ⟨by decide +kernel, rfl, rfl⟩
theorem dd_Sta_useNow_10 : Dc mi_Sta_useNow 10 (.iconst (-1)) 1 11 := ⟨by decide +kernel, rfl⟩
theorem dd_Sta_useNow_11 : decode (mbc mi_Sta_useNow) 11 = .ok (retI (mrt mi_Sta_useNow), 1) := by decide +kernel
theorem dd_Sta_useNow_12 : Dc mi_Sta_useNow 12 (.aload_n 0) 1 13 := ⟨by decide +kernel, rfl⟩
theorem dd_Sta_useNow_13 : Dc mi_Sta_useNow 13 (.aload_n 2) 1 14 := ⟨by decide +kernel, rfl⟩
theorem dd_Sta_useNow_14 : Dc mi_Sta_useNow 14 (.invokevirtual 121) 3 17 := ⟨by decide +kernel, rfl⟩
theorem dd_Sta_useNow_17 : Dc mi_Sta_useNow 17 (.istore_n 3) 1 18 := ⟨by decide +kernel, rfl⟩
theorem dd_Sta_useNow_18 : Dc mi_Sta_useNow 18 (.iload_n 3) 1 19 := ⟨by decide +kernel, rfl⟩
theorem dd_Sta_useNow_19 : Db mi_Sta_useNow 19 (.ifCond .ne 6) 6 22 25 := ⟨by decide +kernel, rfl, rfl⟩
theorem dd_Sta_useNow_22 : Dc mi_Sta_useNow 22 (.bipush (-5)) 2 24 := ⟨by decide +kernel, rfl⟩
theorem dd_Sta_useNow_24 : decode (mbc mi_Sta_useNow) 24 = .ok (retI (mrt mi_Sta_useNow), 1) := by decide +kernel
theorem dd_Sta_useNow_25 : Dc mi_Sta_useNow 25 (.aload_n 2) 1 26 := ⟨by decide +kernel, rfl⟩
theorem dd_Sta_useNow_26 : Dc mi_Sta_useNow 26 (.aload_n 0) 1 27 := ⟨by decide +kernel, rfl⟩
theorem dd_Sta_useNow_27 : Dc mi_Sta_useNow 27 (.getfield 48) 3 30 := ⟨by decide +kernel, rfl⟩
theorem dd_Sta_useNow_30 : Dc mi_Sta_useNow 30 (.putfield 84) 3 33 := ⟨by decide +kernel, rfl⟩
theorem dd_Sta_useNow_33 : Dc mi_Sta_useNow 33 (.iload_n 3) 1 34 := ⟨by decide +kernel, rfl⟩
theorem dd_Sta_useNow_34 : decode (mbc mi_Sta_useNow) 34 = .ok (retI (mrt mi_Sta_useNow), 1) := by decide +kernel
theorem dd_Sta_ageOf_0 : Dc mi_Sta_ageOf 0 (.aload_n 0) 1 1 := ⟨by decide +kernel, rfl⟩
theorem dd_Sta_ageOf_1 : Dc mi_Sta_ageOf 1 (.getfield 48) 3 4 := ⟨by decide +kernel, rfl⟩
theorem dd_Sta_ageOf_4 : Dc mi_Sta_ageOf 4 (.aload_n 1) 1 5 := ⟨by decide +kernel, rfl⟩
theorem dd_Sta_ageOf_5 : Dc mi_Sta_ageOf 5 (.getfield 84) 3 8 := ⟨by decide +kernel, rfl⟩
theorem dd_Sta_ageOf_8 : Dc mi_Sta_ageOf 8 (.isub) 1 9 := ⟨by decide +kernel, rfl⟩
theorem dd_Sta_ageOf_9 : decode (mbc mi_Sta_ageOf) 9 = .ok (retI (mrt mi_Sta_ageOf), 1) := by decide +kernel
theorem dd_Sta_makeAlive_0 : Dc mi_Sta_makeAlive 0 (.aload_n 0) 1 1 := ⟨by decide +kernel, rfl⟩
theorem dd_Sta_makeAlive_1 : Dc mi_Sta_makeAlive 1 (.iload_n 1) 1 2 := ⟨by decide +kernel, rfl⟩
theorem dd_Sta_makeAlive_2 : Dc mi_Sta_makeAlive 2 (.invokevirtual 90) 3 5 := ⟨by decide +kernel, rfl⟩
theorem dd_Sta_makeAlive_5 : Dc mi_Sta_makeAlive 5 (.astore_n 3) 1 6 := ⟨by decide +kernel, rfl⟩
theorem dd_Sta_makeAlive_6 : Dc mi_Sta_makeAlive 6 (.aload_n 3) 1 7 := ⟨by decide +kernel, rfl⟩
theorem dd_Sta_makeAlive_7 : Db mi_Sta_makeAlive 7 (.ifnonnull 5) 5 10 12 := ⟨by decide +kernel, rfl, rfl⟩
theorem dd_Sta_makeAlive_10 : Dc mi_Sta_makeAlive 10 (.iconst (-1)) 1 11 := ⟨by decide +kernel, rfl⟩
theorem dd_Sta_makeAlive_11 : decode (mbc mi_Sta_makeAlive) 11 = .ok (retI (mrt mi_Sta_makeAlive), 1) := by decide +kernel
theorem dd_Sta_makeAlive_12 : Dc mi_Sta_makeAlive 12 (.aload_n 3) 1 13 := ⟨by decide +kernel, rfl⟩
theorem dd_Sta_makeAlive_13 : Dc mi_Sta_makeAlive 13 (.getfield 104) 3 16 := ⟨by decide +kernel, rfl⟩
theorem dd_Sta_makeAlive_16 : Dc mi_Sta_makeAlive 16 (.iload_n 2) 1 17 := ⟨by decide +kernel, rfl⟩
theorem dd_Sta_makeAlive_17 : Db mi_Sta_makeAlive 17 (.if_icmp .ne 6) 6 20 23 := ⟨by decide +kernel, rfl, rfl⟩
theorem dd_Sta_makeAlive_20 : Dc mi_Sta_makeAlive 20 (.bipush (-5)) 2 22 := ⟨by decide +kernel, rfl⟩
theorem dd_Sta_makeAlive_22 : decode (mbc mi_Sta_makeAlive) 22 = .ok (retI (mrt mi_Sta_makeAlive), 1) := by decide +kernel
theorem dd_Sta_makeAlive_23 : Dc mi_Sta_makeAlive 23 (.aload_n 3) 1 24 := ⟨by decide +kernel, rfl⟩
theorem dd_Sta_makeAlive_24 : Dc mi_Sta_makeAlive 24 (.iload_n 2) 1 25 := ⟨by decide +kernel, rfl⟩
theorem dd_Sta_makeAlive_25 : Dc mi_Sta_makeAlive 25 (.putfield 104) 3 28 := ⟨by decide +kernel, rfl⟩
theorem dd_Sta_makeAlive_28 : Dc mi_Sta_makeAlive 28 (.aload_n 0) 1 29 := ⟨by decide +kernel, rfl⟩
theorem dd_Sta_makeAlive_29 : Dc mi_Sta_makeAlive 29 (.iload_n 1) 1 30 := ⟨by decide +kernel, rfl⟩
theorem dd_Sta_makeAlive_30 : Dc mi_Sta_makeAlive 30 (.invokevirtual 124) 3 33 := ⟨by decide +kernel, rfl⟩
theorem dd_Sta_makeAlive_33 : decode (mbc mi_Sta_makeAlive) 33 = .ok (retI (mrt mi_Sta_makeAlive), 1) := by decide +kernel
theorem dd_Sta_blocksOf_0 : Dc mi_Sta_blocksOf 0 (.iconst 0) 1 1 := ⟨by decide +kernel, rfl⟩
theorem dd_Sta_blocksOf_1 : Dc mi_Sta_blocksOf 1 (.istore_n 2) 1 2 := ⟨by decide +kernel, rfl⟩
theorem dd_Sta_blocksOf_2 : Dc mi_Sta_blocksOf 2 (.aload_n 0) 1 3 := ⟨by decide +kernel, rfl⟩
theorem dd_Sta_blocksOf_3 : Dc mi_Sta_blocksOf 3 (.getfield 11) 3 6 := ⟨by decide +kernel, rfl⟩
theorem dd_Sta_blocksOf_6 : Dc mi_Sta_blocksOf 6 (.astore_n 3) 1 7 := ⟨by decide +kernel, rfl⟩
theorem dd_Sta_blocksOf_7 : Dc mi_Sta_blocksOf 7 (.aload_n 3) 1 8 := ⟨by decide +kernel, rfl⟩
theorem dd_Sta_blocksOf_8 : Dc mi_Sta_blocksOf 8 (.arraylength) 1 9 := ⟨by decide +kernel, rfl⟩
theorem dd_Sta_blocksOf_9 : Dc mi_Sta_blocksOf 9 (.istore 4) 2 11 := ⟨by decide +kernel, rfl⟩
theorem dd_Sta_blocksOf_11 : Dc mi_Sta_blocksOf 11 (.iconst 0) 1 12 := ⟨by decide +kernel, rfl⟩
theorem dd_Sta_blocksOf_12 : Dc mi_Sta_blocksOf 12 (.istore 5) 2 14 := ⟨by decide +kernel, rfl⟩
theorem dd_Sta_blocksOf_14 : Dc mi_Sta_blocksOf 14 (.iload 5) 2 16 := ⟨by decide +kernel, rfl⟩
theorem dd_Sta_blocksOf_16 : Dc mi_Sta_blocksOf 16 (.iload 4) 2 18 := ⟨by decide +kernel, rfl⟩
theorem dd_Sta_blocksOf_18 : Db mi_Sta_blocksOf 18 (.if_icmp .ge 27) 27 21 45 := ⟨by decide +kernel, rfl, rfl⟩
theorem dd_Sta_blocksOf_21 : Dc mi_Sta_blocksOf 21 (.aload_n 3) 1 22 := ⟨by decide +kernel, rfl⟩
theorem dd_Sta_blocksOf_22 : Dc mi_Sta_blocksOf 22 (.iload 5) 2 24 := ⟨by decide +kernel, rfl⟩
theorem dd_Sta_blocksOf_24 : Dc mi_Sta_blocksOf 24 (.aaload) 1 25 := ⟨by decide +kernel, rfl⟩
theorem dd_Sta_blocksOf_25 : Dc mi_Sta_blocksOf 25 (.astore 6) 2 27 := ⟨by decide +kernel, rfl⟩
theorem dd_Sta_blocksOf_27 : Dc mi_Sta_blocksOf 27 (.aload 6) 2 29 := ⟨by decide +kernel, rfl⟩
theorem dd_Sta_blocksOf_29 : Dc mi_Sta_blocksOf 29 (.getfield 75) 3 32 := ⟨by decide +kernel, rfl⟩
theorem dd_Sta_blocksOf_32 : Dc mi_Sta_blocksOf 32 (.iload_n 1) 1 33 := ⟨by decide +kernel, rfl⟩
theorem dd_Sta_blocksOf_33 : Db mi_Sta_blocksOf 33 (.if_icmp .ne 6) 6 36 39 := ⟨by decide +kernel, rfl, rfl⟩
theorem dd_Sta_blocksOf_36 : Dc mi_Sta_blocksOf 36 (.iinc 2 1) 3 39 := ⟨by decide +kernel, rfl⟩
theorem dd_Sta_blocksOf_39 : Dc mi_Sta_blocksOf 39 (.iinc 5 1) 3 42 := ⟨by decide +kernel, rfl⟩
theorem dd_Sta_blocksOf_42 : Db mi_Sta_blocksOf 42 (.goto (-28)) (-28) 45 14 := ⟨by decide +kernel, rfl, rfl⟩
theorem dd_Sta_blocksOf_45 : Dc mi_Sta_blocksOf 45 (.iload_n 2) 1 46 := ⟨by decide +kernel, rfl⟩
theorem dd_Sta_blocksOf_46 : decode (mbc mi_Sta_blocksOf) 46 = .ok (retI (mrt mi_Sta_blocksOf), 1) := by decide +kernel
theorem dd_Sta_changeLimit_0 : Dc mi_Sta_changeLimit 0 (.aload_n 0) 1 1 := ⟨by decide +kernel, rfl⟩
theorem dd_Sta_changeLimit_1 : Dc mi_Sta_changeLimit 1 (.iload_n 1) 1 2 := ⟨by decide +kernel, rfl⟩
theorem dd_Sta_changeLimit_2 : Dc mi_Sta_changeLimit 2 (.invokevirtual 90) 3 5 := ⟨by decide +kernel, rfl⟩
theorem dd_Sta_changeLimit_5 : Dc mi_Sta_changeLimit 5 (.astore_n 3) 1 6 := ⟨by decide +kernel, rfl⟩
theorem dd_Sta_changeLimit_6 : Dc mi_Sta_changeLimit 6 (.aload_n 3) 1 7 := ⟨by decide +kernel, rfl⟩
theorem dd_Sta_changeLimit_7 : Db mi_Sta_changeLimit 7 (.ifnonnull 5) 5 10 12 := ⟨by decide +kernel, rfl, rfl⟩
theorem dd_Sta_changeLimit_10 : Dc mi_Sta_changeLimit 10 (.iconst (-1)) 1 11 := ⟨by decide +kernel, rfl⟩
theorem dd_Sta_changeLimit_11 : decode (mbc mi_Sta_changeLimit) 11 = .ok (retI (mrt mi_Sta_changeLimit), 1) := by decide +kernel
theorem dd_Sta_changeLimit_12 : Dc mi_Sta_changeLimit 12 (.iload_n 2) 1 13 := ⟨by decide +kernel, rfl⟩
theorem dd_Sta_changeLimit_13 : Db mi_Sta_changeLimit 13 (.ifCond .lt 9) 9 16 22 := ⟨by decide +kernel, rfl, rfl⟩
theorem dd_Sta_changeLimit_16 : Dc mi_Sta_changeLimit 16 (.iload_n 2) 1 17 := ⟨by decide +kernel, rfl⟩
theorem dd_Sta_changeLimit_17 : Dc mi_Sta_changeLimit 17 (.bipush 64) 2 19 := ⟨by decide +kernel, rfl⟩
theorem dd_Sta_changeLimit_19 : Db mi_Sta_changeLimit 19 (.if_icmp .le 6) 6 22 25 := ⟨by decide +kernel, rfl, rfl⟩
theorem dd_Sta_changeLimit_22 : Dc mi_Sta_changeLimit 22 (.bipush (-2)) 2 24 := ⟨by decide +kernel, rfl⟩
theorem dd_Sta_changeLimit_24 : decode (mbc mi_Sta_changeLimit) 24 = .ok (retI (mrt mi_Sta_changeLimit), 1) := by decide +kernel
theorem dd_Sta_changeLimit_25 : Dc mi_Sta_changeLimit 25 (.aload_n 3) 1 26 := ⟨by decide +kernel, rfl⟩
theorem dd_Sta_changeLimit_26 : Dc mi_Sta_changeLimit 26 (.getfield 127) 3 29 := ⟨by decide +kernel, rfl⟩
theorem dd_Sta_changeLimit_29 : Dc mi_Sta_changeLimit 29 (.iload_n 2) 1 30 := ⟨by decide +kernel, rfl⟩
theorem dd_Sta_changeLimit_30 : Db mi_Sta_changeLimit 30 (.if_icmp .ne 6) 6 33 36 := ⟨by decide +kernel, rfl, rfl⟩
theorem dd_Sta_changeLimit_33 : Dc mi_Sta_changeLimit 33 (.bipush (-5)) 2 35 := ⟨by decide +kernel, rfl⟩
theorem dd_Sta_changeLimit_35 : decode (mbc mi_Sta_changeLimit) 35 = .ok (retI (mrt mi_Sta_changeLimit), 1) := by decide +kernel
theorem dd_Sta_changeLimit_36 : Dc mi_Sta_changeLimit 36 (.aload_n 3) 1 37 := ⟨by decide +kernel, rfl⟩
theorem dd_Sta_changeLimit_37 : Dc mi_Sta_changeLimit 37 (.getfield 127) 3 40 := ⟨by decide +kernel, rfl⟩
theorem dd_Sta_changeLimit_40 : Dc mi_Sta_changeLimit 40 (.istore 4) 2 42 := ⟨by decide +kernel, rfl⟩
theorem dd_Sta_changeLimit_42 : Dc mi_Sta_changeLimit 42 (.aload_n 3) 1 43 := ⟨by decide +kernel, rfl⟩
theorem dd_Sta_changeLimit_43 : Dc mi_Sta_changeLimit 43 (.iload_n 2) 1 44 := ⟨by decide +kernel, rfl⟩
theorem dd_Sta_changeLimit_44 : Dc mi_Sta_changeLimit 44 (.putfield 127) 3 47 := ⟨by decide +kernel, rfl⟩
theorem dd_Sta_changeLimit_47 : Dc mi_Sta_changeLimit 47 (.iload 4) 2 49 := ⟨by decide +kernel, rfl⟩
theorem dd_Sta_changeLimit_49 : decode (mbc mi_Sta_changeLimit) 49 = .ok (retI (mrt mi_Sta_changeLimit), 1) := by decide +kernel
theorem dd_Sta_changePatience_0 : Dc mi_Sta_changePatience 0 (.iload_n 1) 1 1 := ⟨by decide +kernel, rfl⟩
theorem dd_Sta_changePatience_1 : Dc mi_Sta_changePatience 1 (.iconst 1) 1 2 := ⟨by decide +kernel, rfl⟩
theorem dd_Sta_changePatience_2 : Db mi_Sta_changePatience 2 (.if_icmp .lt 10) 10 5 12 := ⟨by decide +kernel, rfl, rfl⟩
theorem dd_Sta_changePatience_5 : Dc mi_Sta_changePatience 5 (.iload_n 1) 1 6 := ⟨by decide +kernel, rfl⟩
theorem dd_Sta_changePatience_6 : Dc mi_Sta_changePatience 6 (.sipush 500) 3 9 := ⟨by decide +kernel, rfl⟩
theorem dd_Sta_changePatience_9 : Db mi_Sta_changePatience 9 (.if_icmp .le 6) 6 12 15 := ⟨by decide +kernel, rfl, rfl⟩
theorem dd_Sta_changePatience_12 : Dc mi_Sta_changePatience 12 (.bipush (-2)) 2 14 := ⟨by decide +kernel, rfl⟩
theorem dd_Sta_changePatience_14 : decode (mbc mi_Sta_changePatience) 14 = .ok (retI (mrt mi_Sta_changePatience), 1) := by decide +kernel
theorem dd_Sta_changePatience_15 : Dc mi_Sta_changePatience 15 (.aload_n 0) 1 16 := ⟨by decide +kernel, rfl⟩
theorem dd_Sta_changePatience_16 : Dc mi_Sta_changePatience 16 (.getfield 31) 3 19 := ⟨by decide +kernel, rfl⟩
theorem dd_Sta_changePatience_19 : Dc mi_Sta_changePatience 19 (.iload_n 1) 1 20 := ⟨by decide +kernel, rfl⟩
theorem dd_Sta_changePatience_20 : Db mi_Sta_changePatience 20 (.if_icmp .ne 6) 6 23 26 := ⟨by decide +kernel, rfl, rfl⟩
theorem dd_Sta_changePatience_23 : Dc mi_Sta_changePatience 23 (.bipush (-5)) 2 25 := ⟨by decide +kernel, rfl⟩
theorem dd_Sta_changePatience_25 : decode (mbc mi_Sta_changePatience) 25 = .ok (retI (mrt mi_Sta_changePatience), 1) := by decide +kernel
theorem dd_Sta_changePatience_26 : Dc mi_Sta_changePatience 26 (.aload_n 0) 1 27 := ⟨by decide +kernel, rfl⟩
theorem dd_Sta_changePatience_27 : Dc mi_Sta_changePatience 27 (.getfield 31) 3 30 := ⟨by decide +kernel, rfl⟩
theorem dd_Sta_changePatience_30 : Dc mi_Sta_changePatience 30 (.istore_n 2) 1 31 := ⟨by decide +kernel, rfl⟩
theorem dd_Sta_changePatience_31 : Dc mi_Sta_changePatience 31 (.aload_n 0) 1 32 := ⟨by decide +kernel, rfl⟩
theorem dd_Sta_changePatience_32 : Dc mi_Sta_changePatience 32 (.iload_n 1) 1 33 := ⟨by decide +kernel, rfl⟩
theorem dd_Sta_changePatience_33 : Dc mi_Sta_changePatience 33 (.putfield 31) 3 36 := ⟨by decide +kernel, rfl⟩
theorem dd_Sta_changePatience_36 : Dc mi_Sta_changePatience 36 (.iload_n 2) 1 37 := ⟨by decide +kernel, rfl⟩
theorem dd_Sta_changePatience_37 : decode (mbc mi_Sta_changePatience) 37 = .ok (retI (mrt mi_Sta_changePatience), 1) := by decide +kernel
theorem dd_Sta_advance_0 : Dc mi_Sta_advance 0 (.iload_n 1) 1 1 := ⟨by decide +kernel, rfl⟩
theorem dd_Sta_advance_1 : Dc mi_Sta_advance 1 (.iconst 1) 1 2 := ⟨by decide +kernel, rfl⟩
theorem dd_Sta_advance_2 : Db mi_Sta_advance 2 (.if_icmp .lt 10) 10 5 12 := ⟨by decide +kernel, rfl, rfl⟩
theorem dd_Sta_advance_5 : Dc mi_Sta_advance 5 (.iload_n 1) 1 6 := ⟨by decide +kernel, rfl⟩
theorem dd_Sta_advance_6 : Dc mi_Sta_advance 6 (.sipush 500) 3 9 := ⟨by decide +kernel, rfl⟩
theorem dd_Sta_advance_9 : Db mi_Sta_advance 9 (.if_icmp .le 6) 6 12 15 := ⟨by decide +kernel, rfl, rfl⟩
theorem dd_Sta_advance_12 : Dc mi_Sta_advance 12 (.bipush (-2)) 2 14 := ⟨by decide +kernel, rfl⟩
theorem dd_Sta_advance_14 : decode (mbc mi_Sta_advance) 14 = .ok (retI (mrt mi_Sta_advance), 1) := by decide +kernel
theorem dd_Sta_advance_15 : Dc mi_Sta_advance 15 (.aload_n 0) 1 16 := ⟨by decide +kernel, rfl⟩
theorem dd_Sta_advance_16 : Dc mi_Sta_advance 16 (.getfield 48) 3 19 := ⟨by decide +kernel, rfl⟩
theorem dd_Sta_advance_19 : Dc mi_Sta_advance 19 (.iload_n 1) 1 20 := ⟨by decide +kernel, rfl⟩
theorem dd_Sta_advance_20 : Dc mi_Sta_advance 20 (.iadd) 1 21 := ⟨by decide +kernel, rfl⟩
theorem dd_Sta_advance_21 : Dc mi_Sta_advance 21 (.sipush 9999) 3 24 := ⟨by decide +kernel, rfl⟩
theorem dd_Sta_advance_24 : Db mi_Sta_advance 24 (.if_icmp .le 6) 6 27 30 := ⟨by decide +kernel, rfl, rfl⟩
theorem dd_Sta_advance_27 : Dc mi_Sta_advance 27 (.bipush (-3)) 2 29 := ⟨by decide +kernel, rfl⟩
theorem dd_Sta_advance_29 : decode (mbc mi_Sta_advance) 29 = .ok (retI (mrt mi_Sta_advance), 1) := by decide +kernel
theorem dd_Sta_advance_30 : Dc mi_Sta_advance 30 (.aload_n 0) 1 31 := ⟨by decide +kernel, rfl⟩
theorem dd_Sta_advance_31 : Dc mi_Sta_advance 31 (.invokevirtual 130) 3 34 := ⟨by decide +kernel, rfl⟩
theorem dd_Sta_advance_34 : Dc mi_Sta_advance 34 (.istore_n 2) 1 35 := ⟨by decide +kernel, rfl⟩
theorem dd_Sta_advance_35 : Dc mi_Sta_advance 35 (.aload_n 0) 1 36 := ⟨by decide +kernel, rfl⟩
theorem dd_Sta_advance_36 : Dc mi_Sta_advance 36 (.dup) 1 37 := ⟨by decide +kernel, rfl⟩
theorem dd_Sta_advance_37 : Dc mi_Sta_advance 37 (.getfield 48) 3 40 := ⟨by decide +kernel, rfl⟩
theorem dd_Sta_advance_40 : Dc mi_Sta_advance 40 (.iload_n 1) 1 41 := ⟨by decide +kernel, rfl⟩
theorem dd_Sta_advance_41 : Dc mi_Sta_advance 41 (.iadd) 1 42 := ⟨by decide +kernel, rfl⟩
theorem dd_Sta_advance_42 : Dc mi_Sta_advance 42 (.putfield 48) 3 45 := ⟨by decide +kernel, rfl⟩
theorem dd_Sta_advance_45 : Dc mi_Sta_advance 45 (.aload_n 0) 1 46 := ⟨by decide +kernel, rfl⟩
theorem dd_Sta_advance_46 : Dc mi_Sta_advance 46 (.invokevirtual 130) 3 49 := ⟨by decide +kernel, rfl⟩
theorem dd_Sta_advance_49 : Dc mi_Sta_advance 49 (.iload_n 2) 1 50 := ⟨by decide +kernel, rfl⟩
theorem dd_Sta_advance_50 : Dc mi_Sta_advance 50 (.isub) 1 51 := ⟨by decide +kernel, rfl⟩
theorem dd_Sta_advance_51 : decode (mbc mi_Sta_advance) 51 = .ok (retI (mrt mi_Sta_advance), 1) := by decide +kernel
theorem dd_Sta_leaks_0 : Dc mi_Sta_leaks 0 (.iconst 0) 1 1 := ⟨by decide +kernel, rfl⟩
theorem dd_Sta_leaks_1 : Dc mi_Sta_leaks 1 (.istore_n 1) 1 2 := ⟨by decide +kernel, rfl⟩
theorem dd_Sta_leaks_2 : Dc mi_Sta_leaks 2 (.iconst 0) 1 3 := ⟨by decide +kernel, rfl⟩
theorem dd_Sta_leaks_3 : Dc mi_Sta_leaks 3 (.istore_n 2) 1 4 := ⟨by decide +kernel, rfl⟩
theorem dd_Sta_leaks_4 : Dc mi_Sta_leaks 4 (.iload_n 2) 1 5 := ⟨by decide +kernel, rfl⟩
theorem dd_Sta_leaks_5 : Dc mi_Sta_leaks 5 (.bipush 6) 2 7 := ⟨by decide +kernel, rfl⟩
theorem dd_Sta_leaks_7 : Db mi_Sta_leaks 7 (.if_icmp .ge 17) 17 10 24 := ⟨by decide +kernel, rfl, rfl⟩
theorem dd_Sta_leaks_10 : Dc mi_Sta_leaks 10 (.iload_n 1) 1 11 := ⟨by decide +kernel, rfl⟩
theorem dd_Sta_leaks_11 : Dc mi_Sta_leaks 11 (.aload_n 0) 1 12 := ⟨by decide +kernel, rfl⟩
theorem dd_Sta_leaks_12 : Dc mi_Sta_leaks 12 (.iload_n 2) 1 13 := ⟨by decide +kernel, rfl⟩
theorem dd_Sta_leaks_13 : Dc mi_Sta_leaks 13 (.invokevirtual 189) 3 16 := ⟨by decide +kernel, rfl⟩
theorem dd_Sta_leaks_16 : Dc mi_Sta_leaks 16 (.iadd) 1 17 := ⟨by decide +kernel, rfl⟩
theorem dd_Sta_leaks_17 : Dc mi_Sta_leaks 17 (.istore_n 1) 1 18 := ⟨by decide +kernel, rfl⟩
theorem dd_Sta_leaks_18 : Dc mi_Sta_leaks 18 (.iinc 2 1) 3 21 := ⟨by decide +kernel, rfl⟩
theorem dd_Sta_leaks_21 : Db mi_Sta_leaks 21 (.goto (-17)) (-17) 24 4 := ⟨by decide +kernel, rfl, rfl⟩
theorem dd_Sta_leaks_24 : Dc mi_Sta_leaks 24 (.iload_n 1) 1 25 := ⟨by decide +kernel, rfl⟩
theorem dd_Sta_leaks_25 : decode (mbc mi_Sta_leaks) 25 = .ok (retI (mrt mi_Sta_leaks), 1) := by decide +kernel
theorem dd_Sta_leaksOf_0 : Dc mi_Sta_leaksOf 0 (.iconst 0) 1 1 := ⟨by decide +kernel, rfl⟩
theorem dd_Sta_leaksOf_1 : Dc mi_Sta_leaksOf 1 (.istore_n 2) 1 2 := ⟨by decide +kernel, rfl⟩
theorem dd_Sta_leaksOf_2 : Dc mi_Sta_leaksOf 2 (.aload_n 0) 1 3 := ⟨by decide +kernel, rfl⟩
theorem dd_Sta_leaksOf_3 : Dc mi_Sta_leaksOf 3 (.getfield 11) 3 6 := ⟨by decide +kernel, rfl⟩
theorem dd_Sta_leaksOf_6 : Dc mi_Sta_leaksOf 6 (.astore_n 3) 1 7 := ⟨by decide +kernel, rfl⟩
theorem dd_Sta_leaksOf_7 : Dc mi_Sta_leaksOf 7 (.aload_n 3) 1 8 := ⟨by decide +kernel, rfl⟩
theorem dd_Sta_leaksOf_8 : Dc mi_Sta_leaksOf 8 (.arraylength) 1 9 := ⟨by decide +kernel, rfl⟩
theorem dd_Sta_leaksOf_9 : Dc mi_Sta_leaksOf 9 (.istore 4) 2 11 := ⟨by decide +kernel, rfl⟩
theorem dd_Sta_leaksOf_11 : Dc mi_Sta_leaksOf 11 (.iconst 0) 1 12 := ⟨by decide +kernel, rfl⟩
theorem dd_Sta_leaksOf_12 : Dc mi_Sta_leaksOf 12 (.istore 5) 2 14 := ⟨by decide +kernel, rfl⟩
theorem dd_Sta_leaksOf_14 : Dc mi_Sta_leaksOf 14 (.iload 5) 2 16 := ⟨by decide +kernel, rfl⟩
theorem dd_Sta_leaksOf_16 : Dc mi_Sta_leaksOf 16 (.iload 4) 2 18 := ⟨by decide +kernel, rfl⟩
theorem dd_Sta_leaksOf_18 : Db mi_Sta_leaksOf 18 (.if_icmp .ge 36) 36 21 54 := ⟨by decide +kernel, rfl, rfl⟩
theorem dd_Sta_leaksOf_21 : Dc mi_Sta_leaksOf 21 (.aload_n 3) 1 22 := ⟨by decide +kernel, rfl⟩
theorem dd_Sta_leaksOf_22 : Dc mi_Sta_leaksOf 22 (.iload 5) 2 24 := ⟨by decide +kernel, rfl⟩
theorem dd_Sta_leaksOf_24 : Dc mi_Sta_leaksOf 24 (.aaload) 1 25 := ⟨by decide +kernel, rfl⟩
theorem dd_Sta_leaksOf_25 : Dc mi_Sta_leaksOf 25 (.astore 6) 2 27 := ⟨by decide +kernel, rfl⟩
theorem dd_Sta_leaksOf_27 : Dc mi_Sta_leaksOf 27 (.aload 6) 2 29 := ⟨by decide +kernel, rfl⟩
theorem dd_Sta_leaksOf_29 : Dc mi_Sta_leaksOf 29 (.getfield 75) 3 32 := ⟨by decide +kernel, rfl⟩
theorem dd_Sta_leaksOf_32 : Dc mi_Sta_leaksOf 32 (.iload_n 1) 1 33 := ⟨by decide +kernel, rfl⟩
theorem dd_Sta_leaksOf_33 : Db mi_Sta_leaksOf 33 (.if_icmp .ne 15) 15 36 48 := ⟨by decide +kernel, rfl, rfl⟩
theorem dd_Sta_leaksOf_36 : Dc mi_Sta_leaksOf 36 (.aload_n 0) 1 37 := ⟨by decide +kernel, rfl⟩
theorem dd_Sta_leaksOf_37 : Dc mi_Sta_leaksOf 37 (.aload 6) 2 39 := ⟨by decide +kernel, rfl⟩
theorem dd_Sta_leaksOf_39 : Dc mi_Sta_leaksOf 39 (.invokevirtual 134) 3 42 := ⟨by decide +kernel, rfl⟩
theorem dd_Sta_leaksOf_42 : Db mi_Sta_leaksOf 42 (.ifCond .eq 6) 6 45 48 := ⟨by decide +kernel, rfl, rfl⟩
theorem dd_Sta_leaksOf_45 : Dc mi_Sta_leaksOf 45 (.iinc 2 1) 3 48 := ⟨by decide +kernel, rfl⟩
theorem dd_Sta_leaksOf_48 : Dc mi_Sta_leaksOf 48 (.iinc 5 1) 3 51 := ⟨by decide +kernel, rfl⟩
theorem dd_Sta_leaksOf_51 : Db mi_Sta_leaksOf 51 (.goto (-37)) (-37) 54 14 := ⟨by decide +kernel, rfl, rfl⟩
theorem dd_Sta_leaksOf_54 : Dc mi_Sta_leaksOf 54 (.iload_n 2) 1 55 := ⟨by decide +kernel, rfl⟩
theorem dd_Sta_leaksOf_55 : decode (mbc mi_Sta_leaksOf) 55 = .ok (retI (mrt mi_Sta_leaksOf), 1) := by decide +kernel
theorem dd_Sta_isLeak_0 : Dc mi_Sta_isLeak 0 (.aload_n 0) 1 1 := ⟨by decide +kernel, rfl⟩
theorem dd_Sta_isLeak_1 : Dc mi_Sta_isLeak 1 (.aload_n 1) 1 2 := ⟨by decide +kernel, rfl⟩
theorem dd_Sta_isLeak_2 : Dc mi_Sta_isLeak 2 (.getfield 75) 3 5 := ⟨by decide +kernel, rfl⟩
theorem dd_Sta_isLeak_5 : Dc mi_Sta_isLeak 5 (.invokevirtual 90) 3 8 := ⟨by decide +kernel, rfl⟩
theorem dd_Sta_isLeak_8 : Dc mi_Sta_isLeak 8 (.astore_n 2) 1 9 := ⟨by decide +kernel, rfl⟩
theorem dd_Sta_isLeak_9 : Dc mi_Sta_isLeak 9 (.aload_n 2) 1 10 := ⟨by decide +kernel, rfl⟩
theorem dd_Sta_isLeak_10 : Db mi_Sta_isLeak 10 (.ifnull 26) 26 13 36 := ⟨by decide +kernel, rfl, rfl⟩
theorem dd_Sta_isLeak_13 : Dc mi_Sta_isLeak 13 (.aload_n 2) 1 14 := ⟨by decide +kernel, rfl⟩
theorem dd_Sta_isLeak_14 : Dc mi_Sta_isLeak 14 (.getfield 104) 3 17 := ⟨by decide +kernel, rfl⟩
theorem dd_Sta_isLeak_17 : Db mi_Sta_isLeak 17 (.ifCond .eq 15) 15 20 32 := ⟨by decide +kernel, rfl, rfl⟩
theorem dd_Sta_isLeak_20 : Dc mi_Sta_isLeak 20 (.aload_n 0) 1 21 := ⟨by decide +kernel, rfl⟩
theorem dd_Sta_isLeak_21 : Dc mi_Sta_isLeak 21 (.aload_n 1) 1 22 := ⟨by decide +kernel, rfl⟩
theorem dd_Sta_isLeak_22 : Dc mi_Sta_isLeak 22 (.invokevirtual 121) 3 25 := ⟨by decide +kernel, rfl⟩
theorem dd_Sta_isLeak_25 : Dc mi_Sta_isLeak 25 (.aload_n 0) 1 26 := ⟨by decide +kernel, rfl⟩
theorem dd_Sta_isLeak_26 : Dc mi_Sta_isLeak 26 (.getfield 31) 3 29 := ⟨by decide +kernel, rfl⟩
theorem dd_Sta_isLeak_29 : Db mi_Sta_isLeak 29 (.if_icmp .lt 7) 7 32 36 := ⟨by decide +kernel, rfl, rfl⟩
theorem dd_Sta_isLeak_32 : Dc mi_Sta_isLeak 32 (.iconst 1) 1 33 := ⟨by decide +kernel, rfl⟩
theorem dd_Sta_isLeak_33 : Db mi_Sta_isLeak 33 (.goto 4) 4 36 37 := ⟨by decide +kernel, rfl, rfl⟩
theorem dd_Sta_isLeak_36 : Dc mi_Sta_isLeak 36 (.iconst 0) 1 37 := ⟨by decide +kernel, rfl⟩
theorem dd_Sta_isLeak_37 : decode (mbc mi_Sta_isLeak) 37 = .ok (retI (mrt mi_Sta_isLeak), 1) := by decide +kernel
theorem dd_Sta_takeLeaksBack_0 : Dc mi_Sta_takeLeaksBack 0 (.iconst 0) 1 1 := ⟨by decide +kernel, rfl⟩
theorem dd_Sta_takeLeaksBack_1 : Dc mi_Sta_takeLeaksBack 1 (.istore_n 1) 1 2 := ⟨by decide +kernel, rfl⟩
theorem dd_Sta_takeLeaksBack_2 : Dc mi_Sta_takeLeaksBack 2 (.aload_n 0) 1 3 := ⟨by decide +kernel, rfl⟩
theorem dd_Sta_takeLeaksBack_3 : Dc mi_Sta_takeLeaksBack 3 (.getfield 11) 3 6 := ⟨by decide +kernel, rfl⟩
theorem dd_Sta_takeLeaksBack_6 : Dc mi_Sta_takeLeaksBack 6 (.astore_n 2) 1 7 := ⟨by decide +kernel, rfl⟩
theorem dd_Sta_takeLeaksBack_7 : Dc mi_Sta_takeLeaksBack 7 (.aload_n 2) 1 8 := ⟨by decide +kernel, rfl⟩
theorem dd_Sta_takeLeaksBack_8 : Dc mi_Sta_takeLeaksBack 8 (.arraylength) 1 9 := ⟨by decide +kernel, rfl⟩
theorem dd_Sta_takeLeaksBack_9 : Dc mi_Sta_takeLeaksBack 9 (.istore_n 3) 1 10 := ⟨by decide +kernel, rfl⟩
theorem dd_Sta_takeLeaksBack_10 : Dc mi_Sta_takeLeaksBack 10 (.iconst 0) 1 11 := ⟨by decide +kernel, rfl⟩
theorem dd_Sta_takeLeaksBack_11 : Dc mi_Sta_takeLeaksBack 11 (.istore 4) 2 13 := ⟨by decide +kernel, rfl⟩
theorem dd_Sta_takeLeaksBack_13 : Dc mi_Sta_takeLeaksBack 13 (.iload 4) 2 15 := ⟨by decide +kernel, rfl⟩
theorem dd_Sta_takeLeaksBack_15 : Dc mi_Sta_takeLeaksBack 15 (.iload_n 3) 1 16 := ⟨by decide +kernel, rfl⟩
theorem dd_Sta_takeLeaksBack_16 : Db mi_Sta_takeLeaksBack 16 (.if_icmp .ge 34) 34 19 50 := ⟨by decide +kernel, rfl, rfl⟩
theorem dd_Sta_takeLeaksBack_19 : Dc mi_Sta_takeLeaksBack 19 (.aload_n 2) 1 20 := ⟨by decide +kernel, rfl⟩
theorem dd_Sta_takeLeaksBack_20 : Dc mi_Sta_takeLeaksBack 20 (.iload 4) 2 22 := ⟨by decide +kernel, rfl⟩
theorem dd_Sta_takeLeaksBack_22 : Dc mi_Sta_takeLeaksBack 22 (.aaload) 1 23 := ⟨by decide +kernel, rfl⟩
theorem dd_Sta_takeLeaksBack_23 : Dc mi_Sta_takeLeaksBack 23 (.astore 5) 2 25 := ⟨by decide +kernel, rfl⟩
theorem dd_Sta_takeLeaksBack_25 : Dc mi_Sta_takeLeaksBack 25 (.aload_n 0) 1 26 := ⟨by decide +kernel, rfl⟩
theorem dd_Sta_takeLeaksBack_26 : Dc mi_Sta_takeLeaksBack 26 (.aload 5) 2 28 := ⟨by decide +kernel, rfl⟩
theorem dd_Sta_takeLeaksBack_28 : Dc mi_Sta_takeLeaksBack 28 (.invokevirtual 134) 3 31 := ⟨by decide +kernel, rfl⟩
theorem dd_Sta_takeLeaksBack_31 : Db mi_Sta_takeLeaksBack 31 (.ifCond .eq 13) 13 34 44 := ⟨by decide +kernel, rfl, rfl⟩
theorem dd_Sta_takeLeaksBack_34 : Dc mi_Sta_takeLeaksBack 34 (.aload_n 0) 1 35 := ⟨by decide +kernel, rfl⟩
theorem dd_Sta_takeLeaksBack_35 : Dc mi_Sta_takeLeaksBack 35 (.aload 5) 2 37 := ⟨by decide +kernel, rfl⟩
theorem dd_Sta_takeLeaksBack_37 : Dc mi_Sta_takeLeaksBack 37 (.invokevirtual 94) 3 40 := ⟨by decide +kernel, rfl⟩
theorem dd_Sta_takeLeaksBack_40 : Dc mi_Sta_takeLeaksBack 40 (.pop) 1 41 := ⟨by decide +kernel, rfl⟩
theorem dd_Sta_takeLeaksBack_41 : Dc mi_Sta_takeLeaksBack 41 (.iinc 1 1) 3 44 := ⟨by decide +kernel, rfl⟩
theorem dd_Sta_takeLeaksBack_44 : Dc mi_Sta_takeLeaksBack 44 (.iinc 4 1) 3 47 := ⟨by decide +kernel, rfl⟩
theorem dd_Sta_takeLeaksBack_47 : Db mi_Sta_takeLeaksBack 47 (.goto (-34)) (-34) 50 13 := ⟨by decide +kernel, rfl, rfl⟩
theorem dd_Sta_takeLeaksBack_50 : Dc mi_Sta_takeLeaksBack 50 (.iload_n 1) 1 51 := ⟨by decide +kernel, rfl⟩
theorem dd_Sta_takeLeaksBack_51 : Db mi_Sta_takeLeaksBack 51 (.ifCond .ne 8) 8 54 59 := ⟨by decide +kernel, rfl, rfl⟩
theorem dd_Sta_takeLeaksBack_54 : Dc mi_Sta_takeLeaksBack 54 (.bipush (-5)) 2 56 := ⟨by decide +kernel, rfl⟩
theorem dd_Sta_takeLeaksBack_56 : Db mi_Sta_takeLeaksBack 56 (.goto 4) 4 59 60 := ⟨by decide +kernel, rfl, rfl⟩
theorem dd_Sta_takeLeaksBack_59 : Dc mi_Sta_takeLeaksBack 59 (.iload_n 1) 1 60 := ⟨by decide +kernel, rfl⟩
theorem dd_Sta_takeLeaksBack_60 : decode (mbc mi_Sta_takeLeaksBack) 60 = .ok (retI (mrt mi_Sta_takeLeaksBack), 1) := by decide +kernel
theorem dd_Sta_ownedBlocks_0 : Dc mi_Sta_ownedBlocks 0 (.iconst 0) 1 1 := ⟨by decide +kernel, rfl⟩
theorem dd_Sta_ownedBlocks_1 : Dc mi_Sta_ownedBlocks 1 (.istore_n 1) 1 2 := ⟨by decide +kernel, rfl⟩
theorem dd_Sta_ownedBlocks_2 : Dc mi_Sta_ownedBlocks 2 (.iconst 0) 1 3 := ⟨by decide +kernel, rfl⟩
theorem dd_Sta_ownedBlocks_3 : Dc mi_Sta_ownedBlocks 3 (.istore_n 2) 1 4 := ⟨by decide +kernel, rfl⟩
theorem dd_Sta_ownedBlocks_4 : Dc mi_Sta_ownedBlocks 4 (.iload_n 2) 1 5 := ⟨by decide +kernel, rfl⟩
theorem dd_Sta_ownedBlocks_5 : Dc mi_Sta_ownedBlocks 5 (.bipush 6) 2 7 := ⟨by decide +kernel, rfl⟩
theorem dd_Sta_ownedBlocks_7 : Db mi_Sta_ownedBlocks 7 (.if_icmp .ge 17) 17 10 24 := ⟨by decide +kernel, rfl, rfl⟩
theorem dd_Sta_ownedBlocks_10 : Dc mi_Sta_ownedBlocks 10 (.iload_n 1) 1 11 := ⟨by decide +kernel, rfl⟩
theorem dd_Sta_ownedBlocks_11 : Dc mi_Sta_ownedBlocks 11 (.aload_n 0) 1 12 := ⟨by decide +kernel, rfl⟩
theorem dd_Sta_ownedBlocks_12 : Dc mi_Sta_ownedBlocks 12 (.iload_n 2) 1 13 := ⟨by decide +kernel, rfl⟩
theorem dd_Sta_ownedBlocks_13 : Dc mi_Sta_ownedBlocks 13 (.invokevirtual 124) 3 16 := ⟨by decide +kernel, rfl⟩
theorem dd_Sta_ownedBlocks_16 : Dc mi_Sta_ownedBlocks 16 (.iadd) 1 17 := ⟨by decide +kernel, rfl⟩
theorem dd_Sta_ownedBlocks_17 : Dc mi_Sta_ownedBlocks 17 (.istore_n 1) 1 18 := ⟨by decide +kernel, rfl⟩
theorem dd_Sta_ownedBlocks_18 : Dc mi_Sta_ownedBlocks 18 (.iinc 2 1) 3 21 := ⟨by decide +kernel, rfl⟩
theorem dd_Sta_ownedBlocks_21 : Db mi_Sta_ownedBlocks 21 (.goto (-17)) (-17) 24 4 := ⟨by decide +kernel, rfl, rfl⟩
theorem dd_Sta_ownedBlocks_24 : Dc mi_Sta_ownedBlocks 24 (.iload_n 1) 1 25 := ⟨by decide +kernel, rfl⟩
theorem dd_Sta_ownedBlocks_25 : decode (mbc mi_Sta_ownedBlocks) 25 = .ok (retI (mrt mi_Sta_ownedBlocks), 1) := by decide +kernel
theorem dd_Sta_tellBlock_0 : Dc mi_Sta_tellBlock 0 (.aload_n 0) 1 1 := ⟨by decide +kernel, rfl⟩
theorem dd_Sta_tellBlock_1 : Dc mi_Sta_tellBlock 1 (.iload_n 1) 1 2 := ⟨by decide +kernel, rfl⟩
theorem dd_Sta_tellBlock_2 : Dc mi_Sta_tellBlock 2 (.invokevirtual 87) 3 5 := ⟨by decide +kernel, rfl⟩
theorem dd_Sta_tellBlock_5 : Dc mi_Sta_tellBlock 5 (.astore_n 3) 1 6 := ⟨by decide +kernel, rfl⟩
theorem dd_Sta_tellBlock_6 : Dc mi_Sta_tellBlock 6 (.aload_n 3) 1 7 := ⟨by decide +kernel, rfl⟩
theorem dd_Sta_tellBlock_7 : Db mi_Sta_tellBlock 7 (.ifnonnull 5) 5 10 12 := ⟨by decide +kernel, rfl, rfl⟩
theorem dd_Sta_tellBlock_10 : Dc mi_Sta_tellBlock 10 (.iconst (-1)) 1 11 := ⟨by decide +kernel, rfl⟩
theorem dd_Sta_tellBlock_11 : decode (mbc mi_Sta_tellBlock) 11 = .ok (retI (mrt mi_Sta_tellBlock), 1) := by decide +kernel
theorem dd_Sta_tellBlock_12 : Dc mi_Sta_tellBlock 12 (.iload_n 2) 1 13 := ⟨by decide +kernel, rfl⟩
theorem dd_Sta_tellBlock_13 : decode (mbc mi_Sta_tellBlock) 13 = .ok (.tableswitch 89 0 6 #[43, 48, 53, 58, 63, 69, 75], 43) := by decide +kernel
theorem dd_Sta_tellBlock_56 : Dc mi_Sta_tellBlock 56 (.aload_n 3) 1 57 := ⟨by decide +kernel, rfl⟩
theorem dd_Sta_tellBlock_57 : Dc mi_Sta_tellBlock 57 (.getfield 98) 3 60 := ⟨by decide +kernel, rfl⟩
theorem dd_Sta_tellBlock_60 : decode (mbc mi_Sta_tellBlock) 60 = .ok (retI (mrt mi_Sta_tellBlock), 1) := by decide +kernel
theorem dd_Sta_tellBlock_61 : Dc mi_Sta_tellBlock 61 (.aload_n 3) 1 62 := ⟨by decide +kernel, rfl⟩
theorem dd_Sta_tellBlock_62 : Dc mi_Sta_tellBlock 62 (.getfield 151) 3 65 := ⟨by decide +kernel, rfl⟩
theorem dd_Sta_tellBlock_65 : decode (mbc mi_Sta_tellBlock) 65 = .ok (retI (mrt mi_Sta_tellBlock), 1) := by decide +kernel
theorem dd_Sta_tellBlock_66 : Dc mi_Sta_tellBlock 66 (.aload_n 3) 1 67 := ⟨by decide +kernel, rfl⟩
theorem dd_Sta_tellBlock_67 : Dc mi_Sta_tellBlock 67 (.getfield 75) 3 70 := ⟨by decide +kernel, rfl⟩
theorem dd_Sta_tellBlock_70 : decode (mbc mi_Sta_tellBlock) 70 = .ok (retI (mrt mi_Sta_tellBlock), 1) := by decide +kernel
theorem dd_Sta_tellBlock_71 : Dc mi_Sta_tellBlock 71 (.aload_n 3) 1 72 := ⟨by decide +kernel, rfl⟩
theorem dd_Sta_tellBlock_72 : Dc mi_Sta_tellBlock 72 (.getfield 81) 3 75 := ⟨by decide +kernel, rfl⟩
theorem dd_Sta_tellBlock_75 : decode (mbc mi_Sta_tellBlock) 75 = .ok (retI (mrt mi_Sta_tellBlock), 1) := by decide +kernel
theorem dd_Sta_tellBlock_76 : Dc mi_Sta_tellBlock 76 (.aload_n 0) 1 77 := ⟨by decide +kernel, rfl⟩
theorem dd_Sta_tellBlock_77 : Dc mi_Sta_tellBlock 77 (.aload_n 3) 1 78 := ⟨by decide +kernel, rfl⟩
theorem dd_Sta_tellBlock_78 : Dc mi_Sta_tellBlock 78 (.invokevirtual 163) 3 81 := ⟨by decide +kernel, rfl⟩
theorem dd_Sta_tellBlock_81 : decode (mbc mi_Sta_tellBlock) 81 = .ok (retI (mrt mi_Sta_tellBlock), 1) := by decide +kernel
theorem dd_Sta_tellBlock_82 : Dc mi_Sta_tellBlock 82 (.aload_n 0) 1 83 := ⟨by decide +kernel, rfl⟩
theorem dd_Sta_tellBlock_83 : Dc mi_Sta_tellBlock 83 (.aload_n 3) 1 84 := ⟨by decide +kernel, rfl⟩
theorem dd_Sta_tellBlock_84 : Dc mi_Sta_tellBlock 84 (.invokevirtual 121) 3 87 := ⟨by decide +kernel, rfl⟩
theorem dd_Sta_tellBlock_87 : decode (mbc mi_Sta_tellBlock) 87 = .ok (retI (mrt mi_Sta_tellBlock), 1) := by decide +kernel
theorem dd_Sta_tellBlock_88 : Dc mi_Sta_tellBlock 88 (.aload_n 0) 1 89 := ⟨by decide +kernel, rfl⟩
theorem dd_Sta_tellBlock_89 : Dc mi_Sta_tellBlock 89 (.aload_n 3) 1 90 := ⟨by decide +kernel, rfl⟩
theorem dd_Sta_tellBlock_90 : Dc mi_Sta_tellBlock 90 (.invokevirtual 134) 3 93 := ⟨by decide +kernel, rfl⟩
theorem dd_Sta_tellBlock_93 : Db mi_Sta_tellBlock 93 (.ifCond .eq 7) 7 96 100 := ⟨by decide +kernel, rfl, rfl⟩
theorem dd_Sta_tellBlock_96 : Dc mi_Sta_tellBlock 96 (.iconst 1) 1 97 := ⟨by decide +kernel, rfl⟩
theorem dd_Sta_tellBlock_97 : Db mi_Sta_tellBlock 97 (.goto 4) 4 100 101 := ⟨by decide +kernel, rfl, rfl⟩
theorem dd_Sta_tellBlock_100 : Dc mi_Sta_tellBlock 100 (.iconst 0) 1 101 := ⟨by decide +kernel, rfl⟩
theorem dd_Sta_tellBlock_101 : decode (mbc mi_Sta_tellBlock) 101 = .ok (retI (mrt mi_Sta_tellBlock), 1) := by decide +kernel
theorem dd_Sta_tellBlock_102 : Dc mi_Sta_tellBlock 102 (.bipush (-2)) 2 104 := ⟨by decide +kernel, rfl⟩
theorem dd_Sta_tellBlock_104 : decode (mbc mi_Sta_tellBlock) 104 = .ok (retI (mrt mi_Sta_tellBlock), 1) := by decide +kernel
theorem dd_Sta_tellWord_0 : Dc mi_Sta_tellWord 0 (.aload_n 0) 1 1 := ⟨by decide +kernel, rfl⟩
theorem dd_Sta_tellWord_1 : Dc mi_Sta_tellWord 1 (.iload_n 1) 1 2 := ⟨by decide +kernel, rfl⟩
theorem dd_Sta_tellWord_2 : Dc mi_Sta_tellWord 2 (.invokevirtual 101) 3 5 := ⟨by decide +kernel, rfl⟩
theorem dd_Sta_tellWord_5 : Dc mi_Sta_tellWord 5 (.astore_n 3) 1 6 := ⟨by decide +kernel, rfl⟩
theorem dd_Sta_tellWord_6 : Dc mi_Sta_tellWord 6 (.aload_n 3) 1 7 := ⟨by decide +kernel, rfl⟩
theorem dd_Sta_tellWord_7 : Db mi_Sta_tellWord 7 (.ifnonnull 5) 5 10 12 := ⟨by decide +kernel, rfl, rfl⟩
theorem dd_Sta_tellWord_10 : Dc mi_Sta_tellWord 10 (.iconst (-1)) 1 11 := ⟨by decide +kernel, rfl⟩
theorem dd_Sta_tellWord_11 : decode (mbc mi_Sta_tellWord) 11 = .ok (retI (mrt mi_Sta_tellWord), 1) := by decide +kernel
theorem dd_Sta_tellWord_12 : Dc mi_Sta_tellWord 12 (.iload_n 2) 1 13 := ⟨by decide +kernel, rfl⟩
theorem dd_Sta_tellWord_13 : decode (mbc mi_Sta_tellWord) 13 = .ok (.tableswitch 73 0 3 #[31, 37, 54, 68], 31) := by decide +kernel
theorem dd_Sta_tellWord_44 : Dc mi_Sta_tellWord 44 (.aload_n 0) 1 45 := ⟨by decide +kernel, rfl⟩
theorem dd_Sta_tellWord_45 : Dc mi_Sta_tellWord 45 (.iload_n 1) 1 46 := ⟨by decide +kernel, rfl⟩
theorem dd_Sta_tellWord_46 : Dc mi_Sta_tellWord 46 (.invokevirtual 112) 3 49 := ⟨by decide +kernel, rfl⟩
theorem dd_Sta_tellWord_49 : decode (mbc mi_Sta_tellWord) 49 = .ok (retI (mrt mi_Sta_tellWord), 1) := by decide +kernel
theorem dd_Sta_tellWord_50 : Dc mi_Sta_tellWord 50 (.aload_n 3) 1 51 := ⟨by decide +kernel, rfl⟩
theorem dd_Sta_tellWord_51 : Dc mi_Sta_tellWord 51 (.invokevirtual 169) 3 54 := ⟨by decide +kernel, rfl⟩
theorem dd_Sta_tellWord_54 : Db mi_Sta_tellWord 54 (.ifCond .eq 10) 10 57 64 := ⟨by decide +kernel, rfl, rfl⟩
theorem dd_Sta_tellWord_57 : Dc mi_Sta_tellWord 57 (.aload_n 3) 1 58 := ⟨by decide +kernel, rfl⟩
theorem dd_Sta_tellWord_58 : Dc mi_Sta_tellWord 58 (.getfield 78) 3 61 := ⟨by decide +kernel, rfl⟩
theorem dd_Sta_tellWord_61 : Db mi_Sta_tellWord 61 (.goto 5) 5 64 66 := ⟨by decide +kernel, rfl, rfl⟩
theorem dd_Sta_tellWord_64 : Dc mi_Sta_tellWord 64 (.bipush (-5)) 2 66 := ⟨by decide +kernel, rfl⟩
theorem dd_Sta_tellWord_66 : decode (mbc mi_Sta_tellWord) 66 = .ok (retI (mrt mi_Sta_tellWord), 1) := by decide +kernel
theorem dd_Sta_tellWord_67 : Dc mi_Sta_tellWord 67 (.aload_n 3) 1 68 := ⟨by decide +kernel, rfl⟩
theorem dd_Sta_tellWord_68 : Dc mi_Sta_tellWord 68 (.iload_n 1) 1 69 := ⟨by decide +kernel, rfl⟩
theorem dd_Sta_tellWord_69 : Dc mi_Sta_tellWord 69 (.invokevirtual 176) 3 72 := ⟨by decide +kernel, rfl⟩
theorem dd_Sta_tellWord_72 : Db mi_Sta_tellWord 72 (.ifCond .eq 7) 7 75 79 := ⟨by decide +kernel, rfl, rfl⟩
theorem dd_Sta_tellWord_75 : Dc mi_Sta_tellWord 75 (.iconst 1) 1 76 := ⟨by decide +kernel, rfl⟩
theorem dd_Sta_tellWord_76 : Db mi_Sta_tellWord 76 (.goto 4) 4 79 80 := ⟨by decide +kernel, rfl, rfl⟩
theorem dd_Sta_tellWord_79 : Dc mi_Sta_tellWord 79 (.iconst 0) 1 80 := ⟨by decide +kernel, rfl⟩
theorem dd_Sta_tellWord_80 : decode (mbc mi_Sta_tellWord) 80 = .ok (retI (mrt mi_Sta_tellWord), 1) := by decide +kernel
theorem dd_Sta_tellWord_81 : Dc mi_Sta_tellWord 81 (.aload_n 3) 1 82 := ⟨by decide +kernel, rfl⟩
theorem dd_Sta_tellWord_82 : Dc mi_Sta_tellWord 82 (.getfield 151) 3 85 := ⟨by decide +kernel, rfl⟩
theorem dd_Sta_tellWord_85 : decode (mbc mi_Sta_tellWord) 85 = .ok (retI (mrt mi_Sta_tellWord), 1) := by decide +kernel
theorem dd_Sta_tellWord_86 : Dc mi_Sta_tellWord 86 (.bipush (-2)) 2 88 := ⟨by decide +kernel, rfl⟩
theorem dd_Sta_tellWord_88 : decode (mbc mi_Sta_tellWord) 88 = .ok (retI (mrt mi_Sta_tellWord), 1) := by decide +kernel
theorem dd_Sta_tellTask_0 : Dc mi_Sta_tellTask 0 (.aload_n 0) 1 1 := ⟨by decide +kernel, rfl⟩
theorem dd_Sta_tellTask_1 : Dc mi_Sta_tellTask 1 (.iload_n 1) 1 2 := ⟨by decide +kernel, rfl⟩
theorem dd_Sta_tellTask_2 : Dc mi_Sta_tellTask 2 (.invokevirtual 90) 3 5 := ⟨by decide +kernel, rfl⟩
theorem dd_Sta_tellTask_5 : Dc mi_Sta_tellTask 5 (.astore_n 3) 1 6 := ⟨by decide +kernel, rfl⟩
theorem dd_Sta_tellTask_6 : Dc mi_Sta_tellTask 6 (.aload_n 3) 1 7 := ⟨by decide +kernel, rfl⟩
theorem dd_Sta_tellTask_7 : Db mi_Sta_tellTask 7 (.ifnonnull 5) 5 10 12 := ⟨by decide +kernel, rfl, rfl⟩
theorem dd_Sta_tellTask_10 : Dc mi_Sta_tellTask 10 (.iconst (-1)) 1 11 := ⟨by decide +kernel, rfl⟩
theorem dd_Sta_tellTask_11 : decode (mbc mi_Sta_tellTask) 11 = .ok (retI (mrt mi_Sta_tellTask), 1) := by decide +kernel
theorem dd_Sta_tellTask_12 : Dc mi_Sta_tellTask 12 (.iload_n 2) 1 13 := ⟨by decide +kernel, rfl⟩
theorem dd_Sta_tellTask_13 : decode (mbc mi_Sta_tellTask) 13 = .ok (.tableswitch 90 0 6 #[43, 56, 62, 68, 74, 79, 85], 43) := by decide +kernel
theorem dd_Sta_tellTask_56 : Dc mi_Sta_tellTask 56 (.aload_n 3) 1 57 := ⟨by decide +kernel, rfl⟩
theorem dd_Sta_tellTask_57 : Dc mi_Sta_tellTask 57 (.getfield 104) 3 60 := ⟨by decide +kernel, rfl⟩
theorem dd_Sta_tellTask_60 : Db mi_Sta_tellTask 60 (.ifCond .eq 7) 7 63 67 := ⟨by decide +kernel, rfl, rfl⟩
theorem dd_Sta_tellTask_63 : Dc mi_Sta_tellTask 63 (.iconst 1) 1 64 := ⟨by decide +kernel, rfl⟩
theorem dd_Sta_tellTask_64 : Db mi_Sta_tellTask 64 (.goto 4) 4 67 68 := ⟨by decide +kernel, rfl, rfl⟩
theorem dd_Sta_tellTask_67 : Dc mi_Sta_tellTask 67 (.iconst 0) 1 68 := ⟨by decide +kernel, rfl⟩
theorem dd_Sta_tellTask_68 : decode (mbc mi_Sta_tellTask) 68 = .ok (retI (mrt mi_Sta_tellTask), 1) := by decide +kernel
theorem dd_Sta_tellTask_69 : Dc mi_Sta_tellTask 69 (.aload_n 0) 1 70 := ⟨by decide +kernel, rfl⟩
theorem dd_Sta_tellTask_70 : Dc mi_Sta_tellTask 70 (.iload_n 1) 1 71 := ⟨by decide +kernel, rfl⟩
theorem dd_Sta_tellTask_71 : Dc mi_Sta_tellTask 71 (.invokevirtual 124) 3 74 := ⟨by decide +kernel, rfl⟩
theorem dd_Sta_tellTask_74 : decode (mbc mi_Sta_tellTask) 74 = .ok (retI (mrt mi_Sta_tellTask), 1) := by decide +kernel
theorem dd_Sta_tellTask_75 : Dc mi_Sta_tellTask 75 (.aload_n 0) 1 76 := ⟨by decide +kernel, rfl⟩
theorem dd_Sta_tellTask_76 : Dc mi_Sta_tellTask 76 (.iload_n 1) 1 77 := ⟨by decide +kernel, rfl⟩
theorem dd_Sta_tellTask_77 : Dc mi_Sta_tellTask 77 (.invokevirtual 185) 3 80 := ⟨by decide +kernel, rfl⟩
theorem dd_Sta_tellTask_80 : decode (mbc mi_Sta_tellTask) 80 = .ok (retI (mrt mi_Sta_tellTask), 1) := by decide +kernel
theorem dd_Sta_tellTask_81 : Dc mi_Sta_tellTask 81 (.aload_n 0) 1 82 := ⟨by decide +kernel, rfl⟩
theorem dd_Sta_tellTask_82 : Dc mi_Sta_tellTask 82 (.iload_n 1) 1 83 := ⟨by decide +kernel, rfl⟩
theorem dd_Sta_tellTask_83 : Dc mi_Sta_tellTask 83 (.invokevirtual 186) 3 86 := ⟨by decide +kernel, rfl⟩
theorem dd_Sta_tellTask_86 : decode (mbc mi_Sta_tellTask) 86 = .ok (retI (mrt mi_Sta_tellTask), 1) := by decide +kernel
theorem dd_Sta_tellTask_87 : Dc mi_Sta_tellTask 87 (.aload_n 3) 1 88 := ⟨by decide +kernel, rfl⟩
theorem dd_Sta_tellTask_88 : Dc mi_Sta_tellTask 88 (.getfield 127) 3 91 := ⟨by decide +kernel, rfl⟩
theorem dd_Sta_tellTask_91 : decode (mbc mi_Sta_tellTask) 91 = .ok (retI (mrt mi_Sta_tellTask), 1) := by decide +kernel
theorem dd_Sta_tellTask_92 : Dc mi_Sta_tellTask 92 (.aload_n 0) 1 93 := ⟨by decide +kernel, rfl⟩
theorem dd_Sta_tellTask_93 : Dc mi_Sta_tellTask 93 (.iload_n 1) 1 94 := ⟨by decide +kernel, rfl⟩
theorem dd_Sta_tellTask_94 : Dc mi_Sta_tellTask 94 (.invokevirtual 189) 3 97 := ⟨by decide +kernel, rfl⟩
theorem dd_Sta_tellTask_97 : decode (mbc mi_Sta_tellTask) 97 = .ok (retI (mrt mi_Sta_tellTask), 1) := by decide +kernel
theorem dd_Sta_tellTask_98 : Dc mi_Sta_tellTask 98 (.aload_n 3) 1 99 := ⟨by decide +kernel, rfl⟩
theorem dd_Sta_tellTask_99 : Dc mi_Sta_tellTask 99 (.getfield 115) 3 102 := ⟨by decide +kernel, rfl⟩
theorem dd_Sta_tellTask_102 : decode (mbc mi_Sta_tellTask) 102 = .ok (retI (mrt mi_Sta_tellTask), 1) := by decide +kernel
theorem dd_Sta_tellTask_103 : Dc mi_Sta_tellTask 103 (.bipush (-2)) 2 105 := ⟨by decide +kernel, rfl⟩
theorem dd_Sta_tellTask_105 : decode (mbc mi_Sta_tellTask) 105 = .ok (retI (mrt mi_Sta_tellTask), 1) := by decide +kernel
theorem dd_Sta_askedBy_0 : Dc mi_Sta_askedBy 0 (.iconst 0) 1 1 := ⟨by decide +kernel, rfl⟩
theorem dd_Sta_askedBy_1 : Dc mi_Sta_askedBy 1 (.istore_n 2) 1 2 := ⟨by decide +kernel, rfl⟩
theorem dd_Sta_askedBy_2 : Dc mi_Sta_askedBy 2 (.aload_n 0) 1 3 := ⟨by decide +kernel, rfl⟩
theorem dd_Sta_askedBy_3 : Dc mi_Sta_askedBy 3 (.getfield 11) 3 6 := ⟨by decide +kernel, rfl⟩
theorem dd_Sta_askedBy_6 : Dc mi_Sta_askedBy 6 (.astore_n 3) 1 7 := ⟨by decide +kernel, rfl⟩
theorem dd_Sta_askedBy_7 : Dc mi_Sta_askedBy 7 (.aload_n 3) 1 8 := ⟨by decide +kernel, rfl⟩
theorem dd_Sta_askedBy_8 : Dc mi_Sta_askedBy 8 (.arraylength) 1 9 := ⟨by decide +kernel, rfl⟩
theorem dd_Sta_askedBy_9 : Dc mi_Sta_askedBy 9 (.istore 4) 2 11 := ⟨by decide +kernel, rfl⟩
theorem dd_Sta_askedBy_11 : Dc mi_Sta_askedBy 11 (.iconst 0) 1 12 := ⟨by decide +kernel, rfl⟩
theorem dd_Sta_askedBy_12 : Dc mi_Sta_askedBy 12 (.istore 5) 2 14 := ⟨by decide +kernel, rfl⟩
theorem dd_Sta_askedBy_14 : Dc mi_Sta_askedBy 14 (.iload 5) 2 16 := ⟨by decide +kernel, rfl⟩
theorem dd_Sta_askedBy_16 : Dc mi_Sta_askedBy 16 (.iload 4) 2 18 := ⟨by decide +kernel, rfl⟩
theorem dd_Sta_askedBy_18 : Db mi_Sta_askedBy 18 (.if_icmp .ge 32) 32 21 50 := ⟨by decide +kernel, rfl, rfl⟩
theorem dd_Sta_askedBy_21 : Dc mi_Sta_askedBy 21 (.aload_n 3) 1 22 := ⟨by decide +kernel, rfl⟩
theorem dd_Sta_askedBy_22 : Dc mi_Sta_askedBy 22 (.iload 5) 2 24 := ⟨by decide +kernel, rfl⟩
theorem dd_Sta_askedBy_24 : Dc mi_Sta_askedBy 24 (.aaload) 1 25 := ⟨by decide +kernel, rfl⟩
theorem dd_Sta_askedBy_25 : Dc mi_Sta_askedBy 25 (.astore 6) 2 27 := ⟨by decide +kernel, rfl⟩
theorem dd_Sta_askedBy_27 : Dc mi_Sta_askedBy 27 (.aload 6) 2 29 := ⟨by decide +kernel, rfl⟩
theorem dd_Sta_askedBy_29 : Dc mi_Sta_askedBy 29 (.getfield 75) 3 32 := ⟨by decide +kernel, rfl⟩
theorem dd_Sta_askedBy_32 : Dc mi_Sta_askedBy 32 (.iload_n 1) 1 33 := ⟨by decide +kernel, rfl⟩
theorem dd_Sta_askedBy_33 : Db mi_Sta_askedBy 33 (.if_icmp .ne 11) 11 36 44 := ⟨by decide +kernel, rfl, rfl⟩
theorem dd_Sta_askedBy_36 : Dc mi_Sta_askedBy 36 (.iload_n 2) 1 37 := ⟨by decide +kernel, rfl⟩
theorem dd_Sta_askedBy_37 : Dc mi_Sta_askedBy 37 (.aload 6) 2 39 := ⟨by decide +kernel, rfl⟩
theorem dd_Sta_askedBy_39 : Dc mi_Sta_askedBy 39 (.getfield 81) 3 42 := ⟨by decide +kernel, rfl⟩
theorem dd_Sta_askedBy_42 : Dc mi_Sta_askedBy 42 (.iadd) 1 43 := ⟨by decide +kernel, rfl⟩
theorem dd_Sta_askedBy_43 : Dc mi_Sta_askedBy 43 (.istore_n 2) 1 44 := ⟨by decide +kernel, rfl⟩
theorem dd_Sta_askedBy_44 : Dc mi_Sta_askedBy 44 (.iinc 5 1) 3 47 := ⟨by decide +kernel, rfl⟩
theorem dd_Sta_askedBy_47 : Db mi_Sta_askedBy 47 (.goto (-33)) (-33) 50 14 := ⟨by decide +kernel, rfl, rfl⟩
theorem dd_Sta_askedBy_50 : Dc mi_Sta_askedBy 50 (.iload_n 2) 1 51 := ⟨by decide +kernel, rfl⟩
theorem dd_Sta_askedBy_51 : decode (mbc mi_Sta_askedBy) 51 = .ok (retI (mrt mi_Sta_askedBy), 1) := by decide +kernel
theorem dd_Sta_greatestRequest_0 : Dc mi_Sta_greatestRequest 0 (.aload_n 0) 1 1 := ⟨by decide +kernel, rfl⟩
theorem dd_Sta_greatestRequest_1 : Dc mi_Sta_greatestRequest 1 (.iload_n 1) 1 2 := ⟨by decide +kernel, rfl⟩
theorem dd_Sta_greatestRequest_2 : Dc mi_Sta_greatestRequest 2 (.invokevirtual 90) 3 5 := ⟨by decide +kernel, rfl⟩
theorem dd_Sta_greatestRequest_5 : Db mi_Sta_greatestRequest 5 (.ifnonnull 5) 5 8 10 := ⟨by decide +kernel, rfl, rfl⟩
theorem dd_Sta_greatestRequest_8 : Dc mi_Sta_greatestRequest 8 (.iconst (-1)) 1 9 := ⟨by decide +kernel, rfl⟩
theorem dd_Sta_greatestRequest_9 : decode (mbc mi_Sta_greatestRequest) 9 = .ok (retI (mrt mi_Sta_greatestRequest), 1) := by decide +kernel
theorem dd_Sta_greatestRequest_10 : Dc mi_Sta_greatestRequest 10 (.bipush 14) 2 12 := ⟨by decide +kernel, rfl⟩
theorem dd_Sta_greatestRequest_12 : Dc mi_Sta_greatestRequest 12 (.istore_n 2) 1 13 := ⟨by decide +kernel, rfl⟩
theorem dd_Sta_greatestRequest_13 : Dc mi_Sta_greatestRequest 13 (.iload_n 2) 1 14 := ⟨by decide +kernel, rfl⟩
theorem dd_Sta_greatestRequest_14 : Dc mi_Sta_greatestRequest 14 (.iconst 1) 1 15 := ⟨by decide +kernel, rfl⟩
theorem dd_Sta_greatestRequest_15 : Db mi_Sta_greatestRequest 15 (.if_icmp .lt 20) 20 18 35 := ⟨by decide +kernel, rfl, rfl⟩
theorem dd_Sta_greatestRequest_18 : Dc mi_Sta_greatestRequest 18 (.aload_n 0) 1 19 := ⟨by decide +kernel, rfl⟩
theorem dd_Sta_greatestRequest_19 : Dc mi_Sta_greatestRequest 19 (.iload_n 1) 1 20 := ⟨by decide +kernel, rfl⟩
theorem dd_Sta_greatestRequest_20 : Dc mi_Sta_greatestRequest 20 (.iload_n 2) 1 21 := ⟨by decide +kernel, rfl⟩
theorem dd_Sta_greatestRequest_21 : Dc mi_Sta_greatestRequest 21 (.invokevirtual 63) 3 24 := ⟨by decide +kernel, rfl⟩
theorem dd_Sta_greatestRequest_24 : Db mi_Sta_greatestRequest 24 (.ifCond .ne 5) 5 27 29 := ⟨by decide +kernel, rfl, rfl⟩
theorem dd_Sta_greatestRequest_27 : Dc mi_Sta_greatestRequest 27 (.iload_n 2) 1 28 := ⟨by decide +kernel, rfl⟩
theorem dd_Sta_greatestRequest_28 : decode (mbc mi_Sta_greatestRequest) 28 = .ok (retI (mrt mi_Sta_greatestRequest), 1) := by decide +kernel
theorem dd_Sta_greatestRequest_29 : Dc mi_Sta_greatestRequest 29 (.iinc 2 (-1)) 3 32 := ⟨by decide +kernel, rfl⟩
theorem dd_Sta_greatestRequest_32 : Db mi_Sta_greatestRequest 32 (.goto (-19)) (-19) 35 13 := ⟨by decide +kernel, rfl, rfl⟩
theorem dd_Sta_greatestRequest_35 : Dc mi_Sta_greatestRequest 35 (.bipush (-5)) 2 37 := ⟨by decide +kernel, rfl⟩
theorem dd_Sta_greatestRequest_37 : decode (mbc mi_Sta_greatestRequest) 37 = .ok (retI (mrt mi_Sta_greatestRequest), 1) := by decide +kernel
theorem dd_Sta_leakOfRank_0 : Dc mi_Sta_leakOfRank 0 (.iload_n 1) 1 1 := ⟨by decide +kernel, rfl⟩
theorem dd_Sta_leakOfRank_1 : Db mi_Sta_leakOfRank 1 (.ifCond .ge 6) 6 4 7 := ⟨by decide +kernel, rfl, rfl⟩
theorem dd_Sta_leakOfRank_4 : Dc mi_Sta_leakOfRank 4 (.bipush (-2)) 2 6 := ⟨by decide +kernel, rfl⟩
theorem dd_Sta_leakOfRank_6 : decode (mbc mi_Sta_leakOfRank) 6 = .ok (retI (mrt mi_Sta_leakOfRank), 1) := by decide +kernel
theorem dd_Sta_leakOfRank_7 : Dc mi_Sta_leakOfRank 7 (.aload_n 0) 1 8 := ⟨by decide +kernel, rfl⟩
theorem dd_Sta_leakOfRank_8 : Dc mi_Sta_leakOfRank 8 (.getfield 11) 3 11 := ⟨by decide +kernel, rfl⟩
theorem dd_Sta_leakOfRank_11 : Dc mi_Sta_leakOfRank 11 (.astore_n 2) 1 12 := ⟨by decide +kernel, rfl⟩
theorem dd_Sta_leakOfRank_12 : Dc mi_Sta_leakOfRank 12 (.aload_n 2) 1 13 := ⟨by decide +kernel, rfl⟩
theorem dd_Sta_leakOfRank_13 : Dc mi_Sta_leakOfRank 13 (.arraylength) 1 14 := ⟨by decide +kernel, rfl⟩
theorem dd_Sta_leakOfRank_14 : Dc mi_Sta_leakOfRank 14 (.istore_n 3) 1 15 := ⟨by decide +kernel, rfl⟩
theorem dd_Sta_leakOfRank_15 : Dc mi_Sta_leakOfRank 15 (.iconst 0) 1 16 := ⟨by decide +kernel, rfl⟩
theorem dd_Sta_leakOfRank_16 : Dc mi_Sta_leakOfRank 16 (.istore 4) 2 18 := ⟨by decide +kernel, rfl⟩
theorem dd_Sta_leakOfRank_18 : Dc mi_Sta_leakOfRank 18 (.iload 4) 2 20 := ⟨by decide +kernel, rfl⟩
theorem dd_Sta_leakOfRank_20 : Dc mi_Sta_leakOfRank 20 (.iload_n 3) 1 21 := ⟨by decide +kernel, rfl⟩
theorem dd_Sta_leakOfRank_21 : Db mi_Sta_leakOfRank 21 (.if_icmp .ge 40) 40 24 61 := ⟨by decide +kernel, rfl, rfl⟩
theorem dd_Sta_leakOfRank_24 : Dc mi_Sta_leakOfRank 24 (.aload_n 2) 1 25 := ⟨by decide +kernel, rfl⟩
theorem dd_Sta_leakOfRank_25 : Dc mi_Sta_leakOfRank 25 (.iload 4) 2 27 := ⟨by decide +kernel, rfl⟩
theorem dd_Sta_leakOfRank_27 : Dc mi_Sta_leakOfRank 27 (.aaload) 1 28 := ⟨by decide +kernel, rfl⟩
theorem dd_Sta_leakOfRank_28 : Dc mi_Sta_leakOfRank 28 (.astore 5) 2 30 := ⟨by decide +kernel, rfl⟩
theorem dd_Sta_leakOfRank_30 : Dc mi_Sta_leakOfRank 30 (.aload_n 0) 1 31 := ⟨by decide +kernel, rfl⟩
theorem dd_Sta_leakOfRank_31 : Dc mi_Sta_leakOfRank 31 (.aload 5) 2 33 := ⟨by decide +kernel, rfl⟩
theorem dd_Sta_leakOfRank_33 : Dc mi_Sta_leakOfRank 33 (.invokevirtual 134) 3 36 := ⟨by decide +kernel, rfl⟩
theorem dd_Sta_leakOfRank_36 : Db mi_Sta_leakOfRank 36 (.ifCond .eq 19) 19 39 55 := ⟨by decide +kernel, rfl, rfl⟩
theorem dd_Sta_leakOfRank_39 : Dc mi_Sta_leakOfRank 39 (.aload_n 0) 1 40 := ⟨by decide +kernel, rfl⟩
theorem dd_Sta_leakOfRank_40 : Dc mi_Sta_leakOfRank 40 (.aload 5) 2 42 := ⟨by decide +kernel, rfl⟩
theorem dd_Sta_leakOfRank_42 : Dc mi_Sta_leakOfRank 42 (.invokevirtual 205) 3 45 := ⟨by decide +kernel, rfl⟩
theorem dd_Sta_leakOfRank_45 : Dc mi_Sta_leakOfRank 45 (.iload_n 1) 1 46 := ⟨by decide +kernel, rfl⟩
theorem dd_Sta_leakOfRank_46 : Db mi_Sta_leakOfRank 46 (.if_icmp .ne 9) 9 49 55 := ⟨by decide +kernel, rfl, rfl⟩
theorem dd_Sta_leakOfRank_49 : Dc mi_Sta_leakOfRank 49 (.aload 5) 2 51 := ⟨by decide +kernel, rfl⟩
theorem dd_Sta_leakOfRank_51 : Dc mi_Sta_leakOfRank 51 (.getfield 78) 3 54 := ⟨by decide +kernel, rfl⟩
theorem dd_Sta_leakOfRank_54 : decode (mbc mi_Sta_leakOfRank) 54 = .ok (retI (mrt mi_Sta_leakOfRank), 1) := by decide +kernel
theorem dd_Sta_leakOfRank_55 : Dc mi_Sta_leakOfRank 55 (.iinc 4 1) 3 58 := ⟨by decide +kernel, rfl⟩
theorem dd_Sta_leakOfRank_58 : Db mi_Sta_leakOfRank 58 (.goto (-40)) (-40) 61 18 := ⟨by decide +kernel, rfl, rfl⟩
theorem dd_Sta_leakOfRank_61 : Dc mi_Sta_leakOfRank 61 (.bipush (-5)) 2 63 := ⟨by decide +kernel, rfl⟩
theorem dd_Sta_leakOfRank_63 : decode (mbc mi_Sta_leakOfRank) 63 = .ok (retI (mrt mi_Sta_leakOfRank), 1) := by decide +kernel
theorem dd_Sta_leaksAheadOf_0 : Dc mi_Sta_leaksAheadOf 0 (.iconst 0) 1 1 := ⟨by decide +kernel, rfl⟩
theorem dd_Sta_leaksAheadOf_1 : Dc mi_Sta_leaksAheadOf 1 (.istore_n 2) 1 2 := ⟨by decide +kernel, rfl⟩
theorem dd_Sta_leaksAheadOf_2 : Dc mi_Sta_leaksAheadOf 2 (.aload_n 0) 1 3 := ⟨by decide +kernel, rfl⟩
theorem dd_Sta_leaksAheadOf_3 : Dc mi_Sta_leaksAheadOf 3 (.getfield 11) 3 6 := ⟨by decide +kernel, rfl⟩
theorem dd_Sta_leaksAheadOf_6 : Dc mi_Sta_leaksAheadOf 6 (.astore_n 3) 1 7 := ⟨by decide +kernel, rfl⟩
theorem dd_Sta_leaksAheadOf_7 : Dc mi_Sta_leaksAheadOf 7 (.aload_n 3) 1 8 := ⟨by decide +kernel, rfl⟩
theorem dd_Sta_leaksAheadOf_8 : Dc mi_Sta_leaksAheadOf 8 (.arraylength) 1 9 := ⟨by decide +kernel, rfl⟩
theorem dd_Sta_leaksAheadOf_9 : Dc mi_Sta_leaksAheadOf 9 (.istore 4) 2 11 := ⟨by decide +kernel, rfl⟩
theorem dd_Sta_leaksAheadOf_11 : Dc mi_Sta_leaksAheadOf 11 (.iconst 0) 1 12 := ⟨by decide +kernel, rfl⟩
theorem dd_Sta_leaksAheadOf_12 : Dc mi_Sta_leaksAheadOf 12 (.istore 5) 2 14 := ⟨by decide +kernel, rfl⟩
theorem dd_Sta_leaksAheadOf_14 : Dc mi_Sta_leaksAheadOf 14 (.iload 5) 2 16 := ⟨by decide +kernel, rfl⟩
theorem dd_Sta_leaksAheadOf_16 : Dc mi_Sta_leaksAheadOf 16 (.iload 4) 2 18 := ⟨by decide +kernel, rfl⟩
theorem dd_Sta_leaksAheadOf_18 : Db mi_Sta_leaksAheadOf 18 (.if_icmp .ge 75) 75 21 93 := ⟨by decide +kernel, rfl, rfl⟩
theorem dd_Sta_leaksAheadOf_21 : Dc mi_Sta_leaksAheadOf 21 (.aload_n 3) 1 22 := ⟨by decide +kernel, rfl⟩
theorem dd_Sta_leaksAheadOf_22 : Dc mi_Sta_leaksAheadOf 22 (.iload 5) 2 24 := ⟨by decide +kernel, rfl⟩
theorem dd_Sta_leaksAheadOf_24 : Dc mi_Sta_leaksAheadOf 24 (.aaload) 1 25 := ⟨by decide +kernel, rfl⟩
theorem dd_Sta_leaksAheadOf_25 : Dc mi_Sta_leaksAheadOf 25 (.astore 6) 2 27 := ⟨by decide +kernel, rfl⟩
theorem dd_Sta_leaksAheadOf_27 : Dc mi_Sta_leaksAheadOf 27 (.aload 6) 2 29 := ⟨by decide +kernel, rfl⟩
theorem dd_Sta_leaksAheadOf_29 : Dc mi_Sta_leaksAheadOf 29 (.getfield 84) 3 32 := ⟨by decide +kernel, rfl⟩
theorem dd_Sta_leaksAheadOf_32 : Dc mi_Sta_leaksAheadOf 32 (.aload_n 1) 1 33 := ⟨by decide +kernel, rfl⟩
theorem dd_Sta_leaksAheadOf_33 : Dc mi_Sta_leaksAheadOf 33 (.getfield 84) 3 36 := ⟨by decide +kernel, rfl⟩
theorem dd_Sta_leaksAheadOf_36 : Db mi_Sta_leaksAheadOf 36 (.if_icmp .lt 27) 27 39 63 := ⟨by decide +kernel, rfl, rfl⟩
theorem dd_Sta_leaksAheadOf_39 : Dc mi_Sta_leaksAheadOf 39 (.aload 6) 2 41 := ⟨by decide +kernel, rfl⟩
theorem dd_Sta_leaksAheadOf_41 : Dc mi_Sta_leaksAheadOf 41 (.getfield 84) 3 44 := ⟨by decide +kernel, rfl⟩
theorem dd_Sta_leaksAheadOf_44 : Dc mi_Sta_leaksAheadOf 44 (.aload_n 1) 1 45 := ⟨by decide +kernel, rfl⟩
theorem dd_Sta_leaksAheadOf_45 : Dc mi_Sta_leaksAheadOf 45 (.getfield 84) 3 48 := ⟨by decide +kernel, rfl⟩
theorem dd_Sta_leaksAheadOf_48 : Db mi_Sta_leaksAheadOf 48 (.if_icmp .ne 19) 19 51 67 := ⟨by decide +kernel, rfl, rfl⟩
theorem dd_Sta_leaksAheadOf_51 : Dc mi_Sta_leaksAheadOf 51 (.aload 6) 2 53 := ⟨by decide +kernel, rfl⟩
theorem dd_Sta_leaksAheadOf_53 : Dc mi_Sta_leaksAheadOf 53 (.getfield 78) 3 56 := ⟨by decide +kernel, rfl⟩
theorem dd_Sta_leaksAheadOf_56 : Dc mi_Sta_leaksAheadOf 56 (.aload_n 1) 1 57 := ⟨by decide +kernel, rfl⟩
theorem dd_Sta_leaksAheadOf_57 : Dc mi_Sta_leaksAheadOf 57 (.getfield 78) 3 60 := ⟨by decide +kernel, rfl⟩
theorem dd_Sta_leaksAheadOf_60 : Db mi_Sta_leaksAheadOf 60 (.if_icmp .ge 7) 7 63 67 := ⟨by decide +kernel, rfl, rfl⟩
theorem dd_Sta_leaksAheadOf_63 : Dc mi_Sta_leaksAheadOf 63 (.iconst 1) 1 64 := ⟨by decide +kernel, rfl⟩
theorem dd_Sta_leaksAheadOf_64 : Db mi_Sta_leaksAheadOf 64 (.goto 4) 4 67 68 := ⟨by decide +kernel, rfl, rfl⟩
theorem dd_Sta_leaksAheadOf_67 : Dc mi_Sta_leaksAheadOf 67 (.iconst 0) 1 68 := ⟨by decide +kernel, rfl⟩
theorem dd_Sta_leaksAheadOf_68 : Dc mi_Sta_leaksAheadOf 68 (.istore 7) 2 70 := ⟨by decide +kernel, rfl⟩
theorem dd_Sta_leaksAheadOf_70 : Dc mi_Sta_leaksAheadOf 70 (.iload 7) 2 72 := ⟨by decide +kernel, rfl⟩
theorem dd_Sta_leaksAheadOf_72 : Db mi_Sta_leaksAheadOf 72 (.ifCond .eq 15) 15 75 87 := ⟨by decide +kernel, rfl, rfl⟩
theorem dd_Sta_leaksAheadOf_75 : Dc mi_Sta_leaksAheadOf 75 (.aload_n 0) 1 76 := ⟨by decide +kernel, rfl⟩
theorem dd_Sta_leaksAheadOf_76 : Dc mi_Sta_leaksAheadOf 76 (.aload 6) 2 78 := ⟨by decide +kernel, rfl⟩
theorem dd_Sta_leaksAheadOf_78 : Dc mi_Sta_leaksAheadOf 78 (.invokevirtual 134) 3 81 := ⟨by decide +kernel, rfl⟩
theorem dd_Sta_leaksAheadOf_81 : Db mi_Sta_leaksAheadOf 81 (.ifCond .eq 6) 6 84 87 := ⟨by decide +kernel, rfl, rfl⟩
theorem dd_Sta_leaksAheadOf_84 : Dc mi_Sta_leaksAheadOf 84 (.iinc 2 1) 3 87 := ⟨by decide +kernel, rfl⟩
theorem dd_Sta_leaksAheadOf_87 : Dc mi_Sta_leaksAheadOf 87 (.iinc 5 1) 3 90 := ⟨by decide +kernel, rfl⟩
theorem dd_Sta_leaksAheadOf_90 : Db mi_Sta_leaksAheadOf 90 (.goto (-76)) (-76) 93 14 := ⟨by decide +kernel, rfl, rfl⟩
theorem dd_Sta_leaksAheadOf_93 : Dc mi_Sta_leaksAheadOf 93 (.iload_n 2) 1 94 := ⟨by decide +kernel, rfl⟩
theorem dd_Sta_leaksAheadOf_94 : decode (mbc mi_Sta_leaksAheadOf) 94 = .ok (retI (mrt mi_Sta_leaksAheadOf), 1) := by decide +kernel
theorem dd_Sta_tellSize_0 : Dc mi_Sta_tellSize 0 (.iload_n 1) 1 1 := ⟨by decide +kernel, rfl⟩
theorem dd_Sta_tellSize_1 : Db mi_Sta_tellSize 1 (.ifCond .lt 8) 8 4 9 := ⟨by decide +kernel, rfl, rfl⟩
theorem dd_Sta_tellSize_4 : Dc mi_Sta_tellSize 4 (.iload_n 1) 1 5 := ⟨by decide +kernel, rfl⟩
theorem dd_Sta_tellSize_5 : Dc mi_Sta_tellSize 5 (.iconst 3) 1 6 := ⟨by decide +kernel, rfl⟩
theorem dd_Sta_tellSize_6 : Db mi_Sta_tellSize 6 (.if_icmp .lt 5) 5 9 11 := ⟨by decide +kernel, rfl, rfl⟩
theorem dd_Sta_tellSize_9 : Dc mi_Sta_tellSize 9 (.iconst (-1)) 1 10 := ⟨by decide +kernel, rfl⟩
theorem dd_Sta_tellSize_10 : decode (mbc mi_Sta_tellSize) 10 = .ok (retI (mrt mi_Sta_tellSize), 1) := by decide +kernel
theorem dd_Sta_tellSize_11 : Dc mi_Sta_tellSize 11 (.iload_n 2) 1 12 := ⟨by decide +kernel, rfl⟩
theorem dd_Sta_tellSize_12 : decode (mbc mi_Sta_tellSize) 12 = .ok (.tableswitch 62 0 2 #[28, 35, 42], 28) := by decide +kernel
theorem dd_Sta_tellSize_40 : Dc mi_Sta_tellSize 40 (.aload_n 0) 1 41 := ⟨by decide +kernel, rfl⟩
theorem dd_Sta_tellSize_41 : Dc mi_Sta_tellSize 41 (.iload_n 1) 1 42 := ⟨by decide +kernel, rfl⟩
theorem dd_Sta_tellSize_42 : Dc mi_Sta_tellSize 42 (.iconst 0) 1 43 := ⟨by decide +kernel, rfl⟩
theorem dd_Sta_tellSize_43 : Dc mi_Sta_tellSize 43 (.invokevirtual 192) 3 46 := ⟨by decide +kernel, rfl⟩
theorem dd_Sta_tellSize_46 : decode (mbc mi_Sta_tellSize) 46 = .ok (retI (mrt mi_Sta_tellSize), 1) := by decide +kernel
theorem dd_Sta_tellSize_47 : Dc mi_Sta_tellSize 47 (.aload_n 0) 1 48 := ⟨by decide +kernel, rfl⟩
theorem dd_Sta_tellSize_48 : Dc mi_Sta_tellSize 48 (.iload_n 1) 1 49 := ⟨by decide +kernel, rfl⟩
theorem dd_Sta_tellSize_49 : Dc mi_Sta_tellSize 49 (.iconst 1) 1 50 := ⟨by decide +kernel, rfl⟩
theorem dd_Sta_tellSize_50 : Dc mi_Sta_tellSize 50 (.invokevirtual 192) 3 53 := ⟨by decide +kernel, rfl⟩
theorem dd_Sta_tellSize_53 : decode (mbc mi_Sta_tellSize) 53 = .ok (retI (mrt mi_Sta_tellSize), 1) := by decide +kernel
theorem dd_Sta_tellSize_54 : Dc mi_Sta_tellSize 54 (.aload_n 0) 1 55 := ⟨by decide +kernel, rfl⟩
theorem dd_Sta_tellSize_55 : Dc mi_Sta_tellSize 55 (.iload_n 1) 1 56 := ⟨by decide +kernel, rfl⟩
theorem dd_Sta_tellSize_56 : Dc mi_Sta_tellSize 56 (.invokevirtual 145) 3 59 := ⟨by decide +kernel, rfl⟩
theorem dd_Sta_tellSize_59 : Dc mi_Sta_tellSize 59 (.astore_n 3) 1 60 := ⟨by decide +kernel, rfl⟩
theorem dd_Sta_tellSize_60 : Dc mi_Sta_tellSize 60 (.aload_n 3) 1 61 := ⟨by decide +kernel, rfl⟩
theorem dd_Sta_tellSize_61 : Db mi_Sta_tellSize 61 (.ifnonnull 8) 8 64 69 := ⟨by decide +kernel, rfl, rfl⟩
theorem dd_Sta_tellSize_64 : Dc mi_Sta_tellSize 64 (.bipush (-5)) 2 66 := ⟨by decide +kernel, rfl⟩
theorem dd_Sta_tellSize_66 : Db mi_Sta_tellSize 66 (.goto 7) 7 69 73 := ⟨by decide +kernel, rfl, rfl⟩
theorem dd_Sta_tellSize_69 : Dc mi_Sta_tellSize 69 (.aload_n 3) 1 70 := ⟨by decide +kernel, rfl⟩
theorem dd_Sta_tellSize_70 : Dc mi_Sta_tellSize 70 (.getfield 98) 3 73 := ⟨by decide +kernel, rfl⟩
theorem dd_Sta_tellSize_73 : decode (mbc mi_Sta_tellSize) 73 = .ok (retI (mrt mi_Sta_tellSize), 1) := by decide +kernel
theorem dd_Sta_tellSize_74 : Dc mi_Sta_tellSize 74 (.bipush (-2)) 2 76 := ⟨by decide +kernel, rfl⟩
theorem dd_Sta_tellSize_76 : decode (mbc mi_Sta_tellSize) 76 = .ok (retI (mrt mi_Sta_tellSize), 1) := by decide +kernel
theorem dd_Sta_blocksOfSize_0 : Dc mi_Sta_blocksOfSize 0 (.iconst 0) 1 1 := ⟨by decide +kernel, rfl⟩
theorem dd_Sta_blocksOfSize_1 : Dc mi_Sta_blocksOfSize 1 (.istore_n 3) 1 2 := ⟨by decide +kernel, rfl⟩
theorem dd_Sta_blocksOfSize_2 : Dc mi_Sta_blocksOfSize 2 (.aload_n 0) 1 3 := ⟨by decide +kernel, rfl⟩
theorem dd_Sta_blocksOfSize_3 : Dc mi_Sta_blocksOfSize 3 (.getfield 11) 3 6 := ⟨by decide +kernel, rfl⟩
theorem dd_Sta_blocksOfSize_6 : Dc mi_Sta_blocksOfSize 6 (.astore 4) 2 8 := ⟨by decide +kernel, rfl⟩
theorem dd_Sta_blocksOfSize_8 : Dc mi_Sta_blocksOfSize 8 (.aload 4) 2 10 := ⟨by decide +kernel, rfl⟩
theorem dd_Sta_blocksOfSize_10 : Dc mi_Sta_blocksOfSize 10 (.arraylength) 1 11 := ⟨by decide +kernel, rfl⟩
theorem dd_Sta_blocksOfSize_11 : Dc mi_Sta_blocksOfSize 11 (.istore 5) 2 13 := ⟨by decide +kernel, rfl⟩
theorem dd_Sta_blocksOfSize_13 : Dc mi_Sta_blocksOfSize 13 (.iconst 0) 1 14 := ⟨by decide +kernel, rfl⟩
theorem dd_Sta_blocksOfSize_14 : Dc mi_Sta_blocksOfSize 14 (.istore 6) 2 16 := ⟨by decide +kernel, rfl⟩
theorem dd_Sta_blocksOfSize_16 : Dc mi_Sta_blocksOfSize 16 (.iload 6) 2 18 := ⟨by decide +kernel, rfl⟩
theorem dd_Sta_blocksOfSize_18 : Dc mi_Sta_blocksOfSize 18 (.iload 5) 2 20 := ⟨by decide +kernel, rfl⟩
theorem dd_Sta_blocksOfSize_20 : Db mi_Sta_blocksOfSize 20 (.if_icmp .ge 37) 37 23 57 := ⟨by decide +kernel, rfl, rfl⟩
theorem dd_Sta_blocksOfSize_23 : Dc mi_Sta_blocksOfSize 23 (.aload 4) 2 25 := ⟨by decide +kernel, rfl⟩
theorem dd_Sta_blocksOfSize_25 : Dc mi_Sta_blocksOfSize 25 (.iload 6) 2 27 := ⟨by decide +kernel, rfl⟩
theorem dd_Sta_blocksOfSize_27 : Dc mi_Sta_blocksOfSize 27 (.aaload) 1 28 := ⟨by decide +kernel, rfl⟩
theorem dd_Sta_blocksOfSize_28 : Dc mi_Sta_blocksOfSize 28 (.astore 7) 2 30 := ⟨by decide +kernel, rfl⟩
theorem dd_Sta_blocksOfSize_30 : Dc mi_Sta_blocksOfSize 30 (.aload 7) 2 32 := ⟨by decide +kernel, rfl⟩
theorem dd_Sta_blocksOfSize_32 : Dc mi_Sta_blocksOfSize 32 (.getfield 151) 3 35 := ⟨by decide +kernel, rfl⟩
theorem dd_Sta_blocksOfSize_35 : Dc mi_Sta_blocksOfSize 35 (.iload_n 1) 1 36 := ⟨by decide +kernel, rfl⟩
theorem dd_Sta_blocksOfSize_36 : Db mi_Sta_blocksOfSize 36 (.if_icmp .ne 15) 15 39 51 := ⟨by decide +kernel, rfl, rfl⟩
theorem dd_Sta_blocksOfSize_39 : Dc mi_Sta_blocksOfSize 39 (.aload 7) 2 41 := ⟨by decide +kernel, rfl⟩
theorem dd_Sta_blocksOfSize_41 : Dc mi_Sta_blocksOfSize 41 (.invokevirtual 169) 3 44 := ⟨by decide +kernel, rfl⟩
theorem dd_Sta_blocksOfSize_44 : Dc mi_Sta_blocksOfSize 44 (.iload_n 2) 1 45 := ⟨by decide +kernel, rfl⟩
theorem dd_Sta_blocksOfSize_45 : Db mi_Sta_blocksOfSize 45 (.if_icmp .ne 6) 6 48 51 := ⟨by decide +kernel, rfl, rfl⟩
theorem dd_Sta_blocksOfSize_48 : Dc mi_Sta_blocksOfSize 48 (.iinc 3 1) 3 51 := ⟨by decide +kernel, rfl⟩
theorem dd_Sta_blocksOfSize_51 : Dc mi_Sta_blocksOfSize 51 (.iinc 6 1) 3 54 := ⟨by decide +kernel, rfl⟩
theorem dd_Sta_blocksOfSize_54 : Db mi_Sta_blocksOfSize 54 (.goto (-38)) (-38) 57 16 := ⟨by decide +kernel, rfl, rfl⟩
theorem dd_Sta_blocksOfSize_57 : Dc mi_Sta_blocksOfSize 57 (.iload_n 3) 1 58 := ⟨by decide +kernel, rfl⟩
theorem dd_Sta_blocksOfSize_58 : decode (mbc mi_Sta_blocksOfSize) 58 = .ok (retI (mrt mi_Sta_blocksOfSize), 1) := by decide +kernel
theorem dd_Sta_tellCount_0 : Dc mi_Sta_tellCount 0 (.iload_n 1) 1 1 := ⟨by decide +kernel, rfl⟩
theorem dd_Sta_tellCount_1 : decode (mbc mi_Sta_tellCount) 1 = .ok (.tableswitch 113 0 9 #[55, 60, 68, 78, 83, 88, 93, 98, 103, 108], 55) := by decide +kernel
theorem dd_Sta_tellCount_56 : Dc mi_Sta_tellCount 56 (.aload_n 0) 1 57 := ⟨by decide +kernel, rfl⟩
theorem dd_Sta_tellCount_57 : Dc mi_Sta_tellCount 57 (.invokevirtual 196) 3 60 := ⟨by decide +kernel, rfl⟩
theorem dd_Sta_tellCount_60 : decode (mbc mi_Sta_tellCount) 60 = .ok (retI (mrt mi_Sta_tellCount), 1) := by decide +kernel
theorem dd_Sta_tellCount_61 : Dc mi_Sta_tellCount 61 (.bipush 64) 2 63 := ⟨by decide +kernel, rfl⟩
theorem dd_Sta_tellCount_63 : Dc mi_Sta_tellCount 63 (.aload_n 0) 1 64 := ⟨by decide +kernel, rfl⟩
theorem dd_Sta_tellCount_64 : Dc mi_Sta_tellCount 64 (.invokevirtual 199) 3 67 := ⟨by decide +kernel, rfl⟩
theorem dd_Sta_tellCount_67 : Dc mi_Sta_tellCount 67 (.isub) 1 68 := ⟨by decide +kernel, rfl⟩
theorem dd_Sta_tellCount_68 : decode (mbc mi_Sta_tellCount) 68 = .ok (retI (mrt mi_Sta_tellCount), 1) := by decide +kernel
theorem dd_Sta_tellCount_69 : Dc mi_Sta_tellCount 69 (.aload_n 0) 1 70 := ⟨by decide +kernel, rfl⟩
theorem dd_Sta_tellCount_70 : Dc mi_Sta_tellCount 70 (.invokevirtual 199) 3 73 := ⟨by decide +kernel, rfl⟩
theorem dd_Sta_tellCount_73 : Dc mi_Sta_tellCount 73 (.aload_n 0) 1 74 := ⟨by decide +kernel, rfl⟩
theorem dd_Sta_tellCount_74 : Dc mi_Sta_tellCount 74 (.invokevirtual 202) 3 77 := ⟨by decide +kernel, rfl⟩
theorem dd_Sta_tellCount_77 : Dc mi_Sta_tellCount 77 (.isub) 1 78 := ⟨by decide +kernel, rfl⟩
theorem dd_Sta_tellCount_78 : decode (mbc mi_Sta_tellCount) 78 = .ok (retI (mrt mi_Sta_tellCount), 1) := by decide +kernel
theorem dd_Sta_tellCount_79 : Dc mi_Sta_tellCount 79 (.aload_n 0) 1 80 := ⟨by decide +kernel, rfl⟩
theorem dd_Sta_tellCount_80 : Dc mi_Sta_tellCount 80 (.invokevirtual 130) 3 83 := ⟨by decide +kernel, rfl⟩
theorem dd_Sta_tellCount_83 : decode (mbc mi_Sta_tellCount) 83 = .ok (retI (mrt mi_Sta_tellCount), 1) := by decide +kernel
theorem dd_Sta_tellCount_84 : Dc mi_Sta_tellCount 84 (.aload_n 0) 1 85 := ⟨by decide +kernel, rfl⟩
theorem dd_Sta_tellCount_85 : Dc mi_Sta_tellCount 85 (.getfield 48) 3 88 := ⟨by decide +kernel, rfl⟩
theorem dd_Sta_tellCount_88 : decode (mbc mi_Sta_tellCount) 88 = .ok (retI (mrt mi_Sta_tellCount), 1) := by decide +kernel
theorem dd_Sta_tellCount_89 : Dc mi_Sta_tellCount 89 (.aload_n 0) 1 90 := ⟨by decide +kernel, rfl⟩
theorem dd_Sta_tellCount_90 : Dc mi_Sta_tellCount 90 (.getfield 54) 3 93 := ⟨by decide +kernel, rfl⟩
theorem dd_Sta_tellCount_93 : decode (mbc mi_Sta_tellCount) 93 = .ok (retI (mrt mi_Sta_tellCount), 1) := by decide +kernel
theorem dd_Sta_tellCount_94 : Dc mi_Sta_tellCount 94 (.aload_n 0) 1 95 := ⟨by decide +kernel, rfl⟩
theorem dd_Sta_tellCount_95 : Dc mi_Sta_tellCount 95 (.getfield 57) 3 98 := ⟨by decide +kernel, rfl⟩
theorem dd_Sta_tellCount_98 : decode (mbc mi_Sta_tellCount) 98 = .ok (retI (mrt mi_Sta_tellCount), 1) := by decide +kernel
theorem dd_Sta_tellCount_99 : Dc mi_Sta_tellCount 99 (.aload_n 0) 1 100 := ⟨by decide +kernel, rfl⟩
theorem dd_Sta_tellCount_100 : Dc mi_Sta_tellCount 100 (.getfield 60) 3 103 := ⟨by decide +kernel, rfl⟩
theorem dd_Sta_tellCount_103 : decode (mbc mi_Sta_tellCount) 103 = .ok (retI (mrt mi_Sta_tellCount), 1) := by decide +kernel
theorem dd_Sta_tellCount_104 : Dc mi_Sta_tellCount 104 (.aload_n 0) 1 105 := ⟨by decide +kernel, rfl⟩
theorem dd_Sta_tellCount_105 : Dc mi_Sta_tellCount 105 (.getfield 51) 3 108 := ⟨by decide +kernel, rfl⟩
theorem dd_Sta_tellCount_108 : decode (mbc mi_Sta_tellCount) 108 = .ok (retI (mrt mi_Sta_tellCount), 1) := by decide +kernel
theorem dd_Sta_tellCount_109 : Dc mi_Sta_tellCount 109 (.aload_n 0) 1 110 := ⟨by decide +kernel, rfl⟩
theorem dd_Sta_tellCount_110 : Dc mi_Sta_tellCount 110 (.getfield 31) 3 113 := ⟨by decide +kernel, rfl⟩
theorem dd_Sta_tellCount_113 : decode (mbc mi_Sta_tellCount) 113 = .ok (retI (mrt mi_Sta_tellCount), 1) := by decide +kernel
theorem dd_Sta_tellCount_114 : Dc mi_Sta_tellCount 114 (.bipush (-2)) 2 116 := ⟨by decide +kernel, rfl⟩
theorem dd_Sta_tellCount_116 : decode (mbc mi_Sta_tellCount) 116 = .ok (retI (mrt mi_Sta_tellCount), 1) := by decide +kernel
theorem dd_Sta_ownedWords_0 : Dc mi_Sta_ownedWords 0 (.iconst 0) 1 1 := ⟨by decide +kernel, rfl⟩
theorem dd_Sta_ownedWords_1 : Dc mi_Sta_ownedWords 1 (.istore_n 1) 1 2 := ⟨by decide +kernel, rfl⟩
theorem dd_Sta_ownedWords_2 : Dc mi_Sta_ownedWords 2 (.iconst 0) 1 3 := ⟨by decide +kernel, rfl⟩
theorem dd_Sta_ownedWords_3 : Dc mi_Sta_ownedWords 3 (.istore_n 2) 1 4 := ⟨by decide +kernel, rfl⟩
theorem dd_Sta_ownedWords_4 : Dc mi_Sta_ownedWords 4 (.iload_n 2) 1 5 := ⟨by decide +kernel, rfl⟩
theorem dd_Sta_ownedWords_5 : Dc mi_Sta_ownedWords 5 (.bipush 6) 2 7 := ⟨by decide +kernel, rfl⟩
theorem dd_Sta_ownedWords_7 : Db mi_Sta_ownedWords 7 (.if_icmp .ge 17) 17 10 24 := ⟨by decide +kernel, rfl, rfl⟩
theorem dd_Sta_ownedWords_10 : Dc mi_Sta_ownedWords 10 (.iload_n 1) 1 11 := ⟨by decide +kernel, rfl⟩
theorem dd_Sta_ownedWords_11 : Dc mi_Sta_ownedWords 11 (.aload_n 0) 1 12 := ⟨by decide +kernel, rfl⟩
theorem dd_Sta_ownedWords_12 : Dc mi_Sta_ownedWords 12 (.iload_n 2) 1 13 := ⟨by decide +kernel, rfl⟩
theorem dd_Sta_ownedWords_13 : Dc mi_Sta_ownedWords 13 (.invokevirtual 185) 3 16 := ⟨by decide +kernel, rfl⟩
theorem dd_Sta_ownedWords_16 : Dc mi_Sta_ownedWords 16 (.iadd) 1 17 := ⟨by decide +kernel, rfl⟩
theorem dd_Sta_ownedWords_17 : Dc mi_Sta_ownedWords 17 (.istore_n 1) 1 18 := ⟨by decide +kernel, rfl⟩
theorem dd_Sta_ownedWords_18 : Dc mi_Sta_ownedWords 18 (.iinc 2 1) 3 21 := ⟨by decide +kernel, rfl⟩
theorem dd_Sta_ownedWords_21 : Db mi_Sta_ownedWords 21 (.goto (-17)) (-17) 24 4 := ⟨by decide +kernel, rfl, rfl⟩
theorem dd_Sta_ownedWords_24 : Dc mi_Sta_ownedWords 24 (.iload_n 1) 1 25 := ⟨by decide +kernel, rfl⟩
theorem dd_Sta_ownedWords_25 : decode (mbc mi_Sta_ownedWords) 25 = .ok (retI (mrt mi_Sta_ownedWords), 1) := by decide +kernel
theorem dd_Sta_askedWords_0 : Dc mi_Sta_askedWords 0 (.iconst 0) 1 1 := ⟨by decide +kernel, rfl⟩
theorem dd_Sta_askedWords_1 : Dc mi_Sta_askedWords 1 (.istore_n 1) 1 2 := ⟨by decide +kernel, rfl⟩
theorem dd_Sta_askedWords_2 : Dc mi_Sta_askedWords 2 (.iconst 0) 1 3 := ⟨by decide +kernel, rfl⟩
theorem dd_Sta_askedWords_3 : Dc mi_Sta_askedWords 3 (.istore_n 2) 1 4 := ⟨by decide +kernel, rfl⟩
theorem dd_Sta_askedWords_4 : Dc mi_Sta_askedWords 4 (.iload_n 2) 1 5 := ⟨by decide +kernel, rfl⟩
theorem dd_Sta_askedWords_5 : Dc mi_Sta_askedWords 5 (.bipush 6) 2 7 := ⟨by decide +kernel, rfl⟩
theorem dd_Sta_askedWords_7 : Db mi_Sta_askedWords 7 (.if_icmp .ge 17) 17 10 24 := ⟨by decide +kernel, rfl, rfl⟩
theorem dd_Sta_askedWords_10 : Dc mi_Sta_askedWords 10 (.iload_n 1) 1 11 := ⟨by decide +kernel, rfl⟩
theorem dd_Sta_askedWords_11 : Dc mi_Sta_askedWords 11 (.aload_n 0) 1 12 := ⟨by decide +kernel, rfl⟩
theorem dd_Sta_askedWords_12 : Dc mi_Sta_askedWords 12 (.iload_n 2) 1 13 := ⟨by decide +kernel, rfl⟩
theorem dd_Sta_askedWords_13 : Dc mi_Sta_askedWords 13 (.invokevirtual 186) 3 16 := ⟨by decide +kernel, rfl⟩
theorem dd_Sta_askedWords_16 : Dc mi_Sta_askedWords 16 (.iadd) 1 17 := ⟨by decide +kernel, rfl⟩
theorem dd_Sta_askedWords_17 : Dc mi_Sta_askedWords 17 (.istore_n 1) 1 18 := ⟨by decide +kernel, rfl⟩
theorem dd_Sta_askedWords_18 : Dc mi_Sta_askedWords 18 (.iinc 2 1) 3 21 := ⟨by decide +kernel, rfl⟩
theorem dd_Sta_askedWords_21 : Db mi_Sta_askedWords 21 (.goto (-17)) (-17) 24 4 := ⟨by decide +kernel, rfl, rfl⟩
theorem dd_Sta_askedWords_24 : Dc mi_Sta_askedWords 24 (.iload_n 1) 1 25 := ⟨by decide +kernel, rfl⟩
theorem dd_Sta_askedWords_25 : decode (mbc mi_Sta_askedWords) 25 = .ok (retI (mrt mi_Sta_askedWords), 1) := by decide +kernel
end
section
/-! decode rows, printed by wip/whole/gen_dec.py -/
theorem dd_Mod_init_0 : Dc mi_Mod_init 0 (.aload_n 0) 1 1 := ⟨by decide +kernel, rfl⟩
theorem dd_Mod_init_1 : Dc mi_Mod_init 1 (.invokespecial 1) 3 4 := ⟨by decide +kernel, rfl⟩
theorem dd_Mod_init_4 : Dc mi_Mod_init 4 (.aload_n 0) 1 5 := ⟨by decide +kernel, rfl⟩
theorem dd_Mod_init_5 : Dc mi_Mod_init 5 (.sipush 472) 3 8 := ⟨by decide +kernel, rfl⟩
theorem dd_Mod_init_8 : Dc mi_Mod_init 8 (.newarray .int) 2 10 := ⟨by decide +kernel, rfl⟩
theorem dd_Mod_init_10 : Dc mi_Mod_init 10 (.putfield 7) 3 13 := ⟨by decide +kernel, rfl⟩
theorem dd_Mod_init_13 : Dc mi_Mod_init 13 (.aload_n 0) 1 14 := ⟨by decide +kernel, rfl⟩
theorem dd_Mod_init_14 : Dc mi_Mod_init 14 (.sipush 472) 3 17 := ⟨by decide +kernel, rfl⟩
theorem dd_Mod_init_17 : Dc mi_Mod_init 17 (.newarray .int) 2 19 := ⟨by decide +kernel, rfl⟩
theorem dd_Mod_init_19 : Dc mi_Mod_init 19 (.putfield 13) 3 22 := ⟨by decide +kernel, rfl⟩
theorem dd_Mod_init_22 : Dc mi_Mod_init 22 (.aload_n 0) 1 23 := ⟨by decide +kernel, rfl⟩
theorem dd_Mod_init_23 : Dc mi_Mod_init 23 (.sipush 1888) 3 26 := ⟨by decide +kernel, rfl⟩
theorem dd_Mod_init_26 : Dc mi_Mod_init 26 (.newarray .int) 2 28 := ⟨by decide +kernel, rfl⟩
theorem dd_Mod_init_28 : Dc mi_Mod_init 28 (.putfield 16) 3 31 := ⟨by decide +kernel, rfl⟩
theorem dd_Mod_init_31 : Dc mi_Mod_init 31 (.aload_n 0) 1 32 := ⟨by decide +kernel, rfl⟩
theorem dd_Mod_init_32 : Dc mi_Mod_init 32 (.sipush 472) 3 35 := ⟨by decide +kernel, rfl⟩
theorem dd_Mod_init_35 : Dc mi_Mod_init 35 (.newarray .int) 2 37 := ⟨by decide +kernel, rfl⟩
theorem dd_Mod_init_37 : Dc mi_Mod_init 37 (.putfield 19) 3 40 := ⟨by decide +kernel, rfl⟩
theorem dd_Mod_init_40 : Dc mi_Mod_init 40 (.aload_n 0) 1 41 := ⟨by decide +kernel, rfl⟩
theorem dd_Mod_init_41 : Dc mi_Mod_init 41 (.iconst 4) 1 42 := ⟨by decide +kernel, rfl⟩
theorem dd_Mod_init_42 : Dc mi_Mod_init 42 (.newarray .int) 2 44 := ⟨by decide +kernel, rfl⟩
theorem dd_Mod_init_44 : Dc mi_Mod_init 44 (.putfield 22) 3 47 := ⟨by decide +kernel, rfl⟩
theorem dd_Mod_init_47 : Dc mi_Mod_init 47 (.aload_n 0) 1 48 := ⟨by decide +kernel, rfl⟩
theorem dd_Mod_init_48 : Dc mi_Mod_init 48 (.bipush 60) 2 50 := ⟨by decide +kernel, rfl⟩
theorem dd_Mod_init_50 : Dc mi_Mod_init 50 (.newarray .int) 2 52 := ⟨by decide +kernel, rfl⟩
theorem dd_Mod_init_52 : Dc mi_Mod_init 52 (.putfield 25) 3 55 := ⟨by decide +kernel, rfl⟩
theorem dd_Mod_init_55 : Dc mi_Mod_init 55 (.aload_n 0) 1 56 := ⟨by decide +kernel, rfl⟩
theorem dd_Mod_init_56 : Dc mi_Mod_init 56 (.bipush (-5)) 2 58 := ⟨by decide +kernel, rfl⟩
theorem dd_Mod_init_58 : Dc mi_Mod_init 58 (.putfield 28) 3 61 := ⟨by decide +kernel, rfl⟩
theorem dd_Mod_init_61 : Dc mi_Mod_init 61 (.aload_n 0) 1 62 := ⟨by decide +kernel, rfl⟩
theorem dd_Mod_init_62 : Dc mi_Mod_init 62 (.bipush (-5)) 2 64 := ⟨by decide +kernel, rfl⟩
theorem dd_Mod_init_64 : Dc mi_Mod_init 64 (.putfield 32) 3 67 := ⟨by decide +kernel, rfl⟩
theorem dd_Mod_init_67 : Dc mi_Mod_init 67 (.iconst 0) 1 68 := ⟨by decide +kernel, rfl⟩
theorem dd_Mod_init_68 : Dc mi_Mod_init 68 (.istore_n 1) 1 69 := ⟨by decide +kernel, rfl⟩
theorem dd_Mod_init_69 : Dc mi_Mod_init 69 (.iload_n 1) 1 70 := ⟨by decide +kernel, rfl⟩
theorem dd_Mod_init_70 : Dc mi_Mod_init 70 (.bipush 64) 2 72 := ⟨by decide +kernel, rfl⟩
theorem dd_Mod_init_72 : Db mi_Mod_init 72 (.if_icmp .ge 44) 44 75 116 := ⟨by decide +kernel, rfl, rfl⟩
theorem dd_Mod_init_75 : Dc mi_Mod_init 75 (.aload_n 0) 1 76 := ⟨by decide +kernel, rfl⟩
theorem dd_Mod_init_76 : Dc mi_Mod_init 76 (.getfield 7) 3 79 := ⟨by decide +kernel, rfl⟩
theorem dd_Mod_init_79 : Dc mi_Mod_init 79 (.sipush 192) 3 82 := ⟨by decide +kernel, rfl⟩
theorem dd_Mod_init_82 : Dc mi_Mod_init 82 (.iload_n 1) 1 83 := ⟨by decide +kernel, rfl⟩
theorem dd_Mod_init_83 : Dc mi_Mod_init 83 (.iadd) 1 84 := ⟨by decide +kernel, rfl⟩
theorem dd_Mod_init_84 : Dc mi_Mod_init 84 (.bipush (-5)) 2 86 := ⟨by decide +kernel, rfl⟩
theorem dd_Mod_init_86 : Dc mi_Mod_init 86 (.iastore) 1 87 := ⟨by decide +kernel, rfl⟩
theorem dd_Mod_init_87 : Dc mi_Mod_init 87 (.aload_n 0) 1 88 := ⟨by decide +kernel, rfl⟩
theorem dd_Mod_init_88 : Dc mi_Mod_init 88 (.getfield 7) 3 91 := ⟨by decide +kernel, rfl⟩
theorem dd_Mod_init_91 : Dc mi_Mod_init 91 (.sipush 128) 3 94 := ⟨by decide +kernel, rfl⟩
theorem dd_Mod_init_94 : Dc mi_Mod_init 94 (.iload_n 1) 1 95 := ⟨by decide +kernel, rfl⟩
theorem dd_Mod_init_95 : Dc mi_Mod_init 95 (.iadd) 1 96 := ⟨by decide +kernel, rfl⟩
theorem dd_Mod_init_96 : Dc mi_Mod_init 96 (.iload_n 1) 1 97 := ⟨by decide +kernel, rfl⟩
theorem dd_Mod_init_97 : Dc mi_Mod_init 97 (.bipush 16) 2 99 := ⟨by decide +kernel, rfl⟩
theorem dd_Mod_init_99 : Dc mi_Mod_init 99 (.irem) 1 100 := ⟨by decide +kernel, rfl⟩
theorem dd_Mod_init_100 : Db mi_Mod_init 100 (.ifCond .ne 8) 8 103 108 := ⟨by decide +kernel, rfl, rfl⟩
theorem dd_Mod_init_103 : Dc mi_Mod_init 103 (.bipush 16) 2 105 := ⟨by decide +kernel, rfl⟩
theorem dd_Mod_init_105 : Db mi_Mod_init 105 (.goto 4) 4 108 109 := ⟨by decide +kernel, rfl, rfl⟩
theorem dd_Mod_init_108 : Dc mi_Mod_init 108 (.iconst 0) 1 109 := ⟨by decide +kernel, rfl⟩
theorem dd_Mod_init_109 : Dc mi_Mod_init 109 (.iastore) 1 110 := ⟨by decide +kernel, rfl⟩
theorem dd_Mod_init_110 : Dc mi_Mod_init 110 (.iinc 1 1) 3 113 := ⟨by decide +kernel, rfl⟩
theorem dd_Mod_init_113 : Db mi_Mod_init 113 (.goto (-44)) (-44) 116 69 := ⟨by decide +kernel, rfl, rfl⟩
theorem dd_Mod_init_116 : Dc mi_Mod_init 116 (.iconst 0) 1 117 := ⟨by decide +kernel, rfl⟩
theorem dd_Mod_init_117 : Dc mi_Mod_init 117 (.istore_n 1) 1 118 := ⟨by decide +kernel, rfl⟩
theorem dd_Mod_init_118 : Dc mi_Mod_init 118 (.iload_n 1) 1 119 := ⟨by decide +kernel, rfl⟩
theorem dd_Mod_init_119 : Dc mi_Mod_init 119 (.bipush 6) 2 121 := ⟨by decide +kernel, rfl⟩
theorem dd_Mod_init_121 : Db mi_Mod_init 121 (.if_icmp .ge 21) 21 124 142 := ⟨by decide +kernel, rfl, rfl⟩
theorem dd_Mod_init_124 : Dc mi_Mod_init 124 (.aload_n 0) 1 125 := ⟨by decide +kernel, rfl⟩
theorem dd_Mod_init_125 : Dc mi_Mod_init 125 (.getfield 7) 3 128 := ⟨by decide +kernel, rfl⟩
theorem dd_Mod_init_128 : Dc mi_Mod_init 128 (.sipush 454) 3 131 := ⟨by decide +kernel, rfl⟩
theorem dd_Mod_init_131 : Dc mi_Mod_init 131 (.iload_n 1) 1 132 := ⟨by decide +kernel, rfl⟩
theorem dd_Mod_init_132 : Dc mi_Mod_init 132 (.iadd) 1 133 := ⟨by decide +kernel, rfl⟩
theorem dd_Mod_init_133 : Dc mi_Mod_init 133 (.bipush 32) 2 135 := ⟨by decide +kernel, rfl⟩
theorem dd_Mod_init_135 : Dc mi_Mod_init 135 (.iastore) 1 136 := ⟨by decide +kernel, rfl⟩
theorem dd_Mod_init_136 : Dc mi_Mod_init 136 (.iinc 1 1) 3 139 := ⟨by decide +kernel, rfl⟩
theorem dd_Mod_init_139 : Db mi_Mod_init 139 (.goto (-21)) (-21) 142 118 := ⟨by decide +kernel, rfl, rfl⟩
theorem dd_Mod_init_142 : Dc mi_Mod_init 142 (.aload_n 0) 1 143 := ⟨by decide +kernel, rfl⟩
theorem dd_Mod_init_143 : Dc mi_Mod_init 143 (.getfield 7) 3 146 := ⟨by decide +kernel, rfl⟩
theorem dd_Mod_init_146 : Dc mi_Mod_init 146 (.sipush 467) 3 149 := ⟨by decide +kernel, rfl⟩
theorem dd_Mod_init_149 : Dc mi_Mod_init 149 (.bipush 50) 2 151 := ⟨by decide +kernel, rfl⟩
theorem dd_Mod_init_151 : Dc mi_Mod_init 151 (.iastore) 1 152 := ⟨by decide +kernel, rfl⟩
theorem dd_Mod_init_152 : decode (mbc mi_Mod_init) 152 = .ok (retI (mrt mi_Mod_init), 1) := by decide +kernel
theorem dd_Mod_ask_0 : Dc mi_Mod_ask 0 (.aload_n 0) 1 1 := ⟨by decide +kernel, rfl⟩
theorem dd_Mod_ask_1 : Dc mi_Mod_ask 1 (.iload_n 1) 1 2 := ⟨by decide +kernel, rfl⟩
theorem dd_Mod_ask_2 : Dc mi_Mod_ask 2 (.iload_n 2) 1 3 := ⟨by decide +kernel, rfl⟩
theorem dd_Mod_ask_3 : Dc mi_Mod_ask 3 (.invokevirtual 87) 3 6 := ⟨by decide +kernel, rfl⟩
theorem dd_Mod_ask_6 : Dc mi_Mod_ask 6 (.istore_n 3) 1 7 := ⟨by decide +kernel, rfl⟩
theorem dd_Mod_ask_7 : Dc mi_Mod_ask 7 (.iload_n 3) 1 8 := ⟨by decide +kernel, rfl⟩
theorem dd_Mod_ask_8 : Dc mi_Mod_ask 8 (.bipush (-6)) 2 10 := ⟨by decide +kernel, rfl⟩
theorem dd_Mod_ask_10 : Db mi_Mod_ask 10 (.if_icmp .ne 18) 18 13 28 := ⟨by decide +kernel, rfl, rfl⟩
theorem dd_Mod_ask_13 : Dc mi_Mod_ask 13 (.aload_n 0) 1 14 := ⟨by decide +kernel, rfl⟩
theorem dd_Mod_ask_14 : Dc mi_Mod_ask 14 (.getfield 22) 3 17 := ⟨by decide +kernel, rfl⟩
theorem dd_Mod_ask_17 : Dc mi_Mod_ask 17 (.aload_n 0) 1 18 := ⟨by decide +kernel, rfl⟩
theorem dd_Mod_ask_18 : Dc mi_Mod_ask 18 (.iload_n 1) 1 19 := ⟨by decide +kernel, rfl⟩
theorem dd_Mod_ask_19 : Dc mi_Mod_ask 19 (.iload_n 2) 1 20 := ⟨by decide +kernel, rfl⟩
theorem dd_Mod_ask_20 : Dc mi_Mod_ask 20 (.invokevirtual 74) 3 23 := ⟨by decide +kernel, rfl⟩
theorem dd_Mod_ask_23 : Dc mi_Mod_ask 23 (.dup2) 1 24 := ⟨by decide +kernel, rfl⟩
theorem dd_Mod_ask_24 : Dc mi_Mod_ask 24 (.iaload) 1 25 := ⟨by decide +kernel, rfl⟩
theorem dd_Mod_ask_25 : Dc mi_Mod_ask 25 (.iconst 1) 1 26 := ⟨by decide +kernel, rfl⟩
theorem dd_Mod_ask_26 : Dc mi_Mod_ask 26 (.iadd) 1 27 := ⟨by decide +kernel, rfl⟩
theorem dd_Mod_ask_27 : Dc mi_Mod_ask 27 (.iastore) 1 28 := ⟨by decide +kernel, rfl⟩
theorem dd_Mod_ask_28 : Dc mi_Mod_ask 28 (.iload_n 3) 1 29 := ⟨by decide +kernel, rfl⟩
theorem dd_Mod_ask_29 : Db mi_Mod_ask 29 (.ifCond .ge 5) 5 32 34 := ⟨by decide +kernel, rfl, rfl⟩
theorem dd_Mod_ask_32 : Dc mi_Mod_ask 32 (.iload_n 3) 1 33 := ⟨by decide +kernel, rfl⟩
theorem dd_Mod_ask_33 : decode (mbc mi_Mod_ask) 33 = .ok (retI (mrt mi_Mod_ask), 1) := by decide +kernel
theorem dd_Mod_ask_34 : Dc mi_Mod_ask 34 (.aload_n 0) 1 35 := ⟨by decide +kernel, rfl⟩
theorem dd_Mod_ask_35 : Dc mi_Mod_ask 35 (.invokevirtual 90) 3 38 := ⟨by decide +kernel, rfl⟩
theorem dd_Mod_ask_38 : Dc mi_Mod_ask 38 (.aload_n 0) 1 39 := ⟨by decide +kernel, rfl⟩
theorem dd_Mod_ask_39 : Dc mi_Mod_ask 39 (.iload_n 1) 1 40 := ⟨by decide +kernel, rfl⟩
theorem dd_Mod_ask_40 : Dc mi_Mod_ask 40 (.iload_n 2) 1 41 := ⟨by decide +kernel, rfl⟩
theorem dd_Mod_ask_41 : Dc mi_Mod_ask 41 (.invokevirtual 93) 3 44 := ⟨by decide +kernel, rfl⟩
theorem dd_Mod_ask_44 : decode (mbc mi_Mod_ask) 44 = .ok (retI (mrt mi_Mod_ask), 1) := by decide +kernel
theorem dd_Mod_askFault_0 : Dc mi_Mod_askFault 0 (.iload_n 1) 1 1 := ⟨by decide +kernel, rfl⟩
theorem dd_Mod_askFault_1 : Dc mi_Mod_askFault 1 (.invokestatic 71) 3 4 := ⟨by decide +kernel, rfl⟩
theorem dd_Mod_askFault_4 : Db mi_Mod_askFault 4 (.ifCond .ne 5) 5 7 9 := ⟨by decide +kernel, rfl, rfl⟩
theorem dd_Mod_askFault_7 : Dc mi_Mod_askFault 7 (.iconst (-1)) 1 8 := ⟨by decide +kernel, rfl⟩
theorem dd_Mod_askFault_8 : decode (mbc mi_Mod_askFault) 8 = .ok (retI (mrt mi_Mod_askFault), 1) := by decide +kernel
theorem dd_Mod_askFault_9 : Dc mi_Mod_askFault 9 (.iload_n 2) 1 10 := ⟨by decide +kernel, rfl⟩
theorem dd_Mod_askFault_10 : Dc mi_Mod_askFault 10 (.iconst 1) 1 11 := ⟨by decide +kernel, rfl⟩
theorem dd_Mod_askFault_11 : Dc mi_Mod_askFault 11 (.bipush 14) 2 13 := ⟨by decide +kernel, rfl⟩
theorem dd_Mod_askFault_13 : Dc mi_Mod_askFault 13 (.invokestatic 35) 3 16 := ⟨by decide +kernel, rfl⟩
theorem dd_Mod_askFault_16 : Db mi_Mod_askFault 16 (.ifCond .ne 6) 6 19 22 := ⟨by decide +kernel, rfl, rfl⟩
theorem dd_Mod_askFault_19 : Dc mi_Mod_askFault 19 (.bipush (-2)) 2 21 := ⟨by decide +kernel, rfl⟩
theorem dd_Mod_askFault_21 : decode (mbc mi_Mod_askFault) 21 = .ok (retI (mrt mi_Mod_askFault), 1) := by decide +kernel
theorem dd_Mod_askFault_22 : Dc mi_Mod_askFault 22 (.aload_n 0) 1 23 := ⟨by decide +kernel, rfl⟩
theorem dd_Mod_askFault_23 : Dc mi_Mod_askFault 23 (.getfield 7) 3 26 := ⟨by decide +kernel, rfl⟩
theorem dd_Mod_askFault_26 : Dc mi_Mod_askFault 26 (.sipush 471) 3 29 := ⟨by decide +kernel, rfl⟩
theorem dd_Mod_askFault_29 : Dc mi_Mod_askFault 29 (.iaload) 1 30 := ⟨by decide +kernel, rfl⟩
theorem dd_Mod_askFault_30 : Dc mi_Mod_askFault 30 (.sipush 300) 3 33 := ⟨by decide +kernel, rfl⟩
theorem dd_Mod_askFault_33 : Db mi_Mod_askFault 33 (.if_icmp .ne 8) 8 36 41 := ⟨by decide +kernel, rfl, rfl⟩
theorem dd_Mod_askFault_36 : Dc mi_Mod_askFault 36 (.bipush (-3)) 2 38 := ⟨by decide +kernel, rfl⟩
theorem dd_Mod_askFault_38 : Db mi_Mod_askFault 38 (.goto 18) 18 41 56 := ⟨by decide +kernel, rfl, rfl⟩
theorem dd_Mod_askFault_41 : Dc mi_Mod_askFault 41 (.aload_n 0) 1 42 := ⟨by decide +kernel, rfl⟩
theorem dd_Mod_askFault_42 : Dc mi_Mod_askFault 42 (.iload_n 1) 1 43 := ⟨by decide +kernel, rfl⟩
theorem dd_Mod_askFault_43 : Dc mi_Mod_askFault 43 (.iload_n 2) 1 44 := ⟨by decide +kernel, rfl⟩
theorem dd_Mod_askFault_44 : Dc mi_Mod_askFault 44 (.invokevirtual 74) 3 47 := ⟨by decide +kernel, rfl⟩
theorem dd_Mod_askFault_47 : Db mi_Mod_askFault 47 (.ifCond .le 8) 8 50 55 := ⟨by decide +kernel, rfl, rfl⟩
theorem dd_Mod_askFault_50 : Dc mi_Mod_askFault 50 (.bipush (-6)) 2 52 := ⟨by decide +kernel, rfl⟩
theorem dd_Mod_askFault_52 : Db mi_Mod_askFault 52 (.goto 4) 4 55 56 := ⟨by decide +kernel, rfl, rfl⟩
theorem dd_Mod_askFault_55 : Dc mi_Mod_askFault 55 (.iconst 0) 1 56 := ⟨by decide +kernel, rfl⟩
theorem dd_Mod_askFault_56 : decode (mbc mi_Mod_askFault) 56 = .ok (retI (mrt mi_Mod_askFault), 1) := by decide +kernel
theorem dd_Mod_isTask_0 : Dc mi_Mod_isTask 0 (.iload_n 0) 1 1 := ⟨by decide +kernel, rfl⟩
theorem dd_Mod_isTask_1 : Dc mi_Mod_isTask 1 (.iconst 0) 1 2 := ⟨by decide +kernel, rfl⟩
theorem dd_Mod_isTask_2 : Dc mi_Mod_isTask 2 (.iconst 5) 1 3 := ⟨by decide +kernel, rfl⟩
theorem dd_Mod_isTask_3 : Dc mi_Mod_isTask 3 (.invokestatic 35) 3 6 := ⟨by decide +kernel, rfl⟩
theorem dd_Mod_isTask_6 : decode (mbc mi_Mod_isTask) 6 = .ok (retI (mrt mi_Mod_isTask), 1) := by decide +kernel
theorem dd_Mod_in_0 : Dc mi_Mod_in 0 (.iload_n 0) 1 1 := ⟨by decide +kernel, rfl⟩
theorem dd_Mod_in_1 : Dc mi_Mod_in 1 (.iload_n 1) 1 2 := ⟨by decide +kernel, rfl⟩
theorem dd_Mod_in_2 : Db mi_Mod_in 2 (.if_icmp .lt 12) 12 5 14 := ⟨by decide +kernel, rfl, rfl⟩
theorem dd_Mod_in_5 : Dc mi_Mod_in 5 (.iload_n 0) 1 6 := ⟨by decide +kernel, rfl⟩
theorem dd_Mod_in_6 : Dc mi_Mod_in 6 (.iload_n 2) 1 7 := ⟨by decide +kernel, rfl⟩
theorem dd_Mod_in_7 : Db mi_Mod_in 7 (.if_icmp .gt 7) 7 10 14 := ⟨by decide +kernel, rfl, rfl⟩
theorem dd_Mod_in_10 : Dc mi_Mod_in 10 (.iconst 1) 1 11 := ⟨by decide +kernel, rfl⟩
theorem dd_Mod_in_11 : Db mi_Mod_in 11 (.goto 4) 4 14 15 := ⟨by decide +kernel, rfl, rfl⟩
theorem dd_Mod_in_14 : Dc mi_Mod_in 14 (.iconst 0) 1 15 := ⟨by decide +kernel, rfl⟩
theorem dd_Mod_in_15 : decode (mbc mi_Mod_in) 15 = .ok (retI (mrt mi_Mod_in), 1) := by decide +kernel
theorem dd_Mod_why_0 : Dc mi_Mod_why 0 (.iload_n 2) 1 1 := ⟨by decide +kernel, rfl⟩
theorem dd_Mod_why_1 : Dc mi_Mod_why 1 (.invokestatic 53) 3 4 := ⟨by decide +kernel, rfl⟩
theorem dd_Mod_why_4 : Dc mi_Mod_why 4 (.istore_n 3) 1 5 := ⟨by decide +kernel, rfl⟩
theorem dd_Mod_why_5 : Dc mi_Mod_why 5 (.aload_n 0) 1 6 := ⟨by decide +kernel, rfl⟩
theorem dd_Mod_why_6 : Dc mi_Mod_why 6 (.getfield 7) 3 9 := ⟨by decide +kernel, rfl⟩
theorem dd_Mod_why_9 : Dc mi_Mod_why 9 (.sipush 448) 3 12 := ⟨by decide +kernel, rfl⟩
theorem dd_Mod_why_12 : Dc mi_Mod_why 12 (.iload_n 1) 1 13 := ⟨by decide +kernel, rfl⟩
theorem dd_Mod_why_13 : Dc mi_Mod_why 13 (.iadd) 1 14 := ⟨by decide +kernel, rfl⟩
theorem dd_Mod_why_14 : Dc mi_Mod_why 14 (.iaload) 1 15 := ⟨by decide +kernel, rfl⟩
theorem dd_Mod_why_15 : Dc mi_Mod_why 15 (.iconst 1) 1 16 := ⟨by decide +kernel, rfl⟩
theorem dd_Mod_why_16 : Db mi_Mod_why 16 (.if_icmp .ne 5) 5 19 21 := ⟨by decide +kernel, rfl, rfl⟩
theorem dd_Mod_why_19 : Dc mi_Mod_why 19 (.iconst 1) 1 20 := ⟨by decide +kernel, rfl⟩
theorem dd_Mod_why_20 : decode (mbc mi_Mod_why) 20 = .ok (retI (mrt mi_Mod_why), 1) := by decide +kernel
theorem dd_Mod_why_21 : Dc mi_Mod_why 21 (.aload_n 0) 1 22 := ⟨by decide +kernel, rfl⟩
theorem dd_Mod_why_22 : Dc mi_Mod_why 22 (.iload_n 1) 1 23 := ⟨by decide +kernel, rfl⟩
theorem dd_Mod_why_23 : Dc mi_Mod_why 23 (.invokevirtual 56) 3 26 := ⟨by decide +kernel, rfl⟩
theorem dd_Mod_why_26 : Dc mi_Mod_why 26 (.iload_n 3) 1 27 := ⟨by decide +kernel, rfl⟩
theorem dd_Mod_why_27 : Dc mi_Mod_why 27 (.iadd) 1 28 := ⟨by decide +kernel, rfl⟩
theorem dd_Mod_why_28 : Dc mi_Mod_why 28 (.aload_n 0) 1 29 := ⟨by decide +kernel, rfl⟩
theorem dd_Mod_why_29 : Dc mi_Mod_why 29 (.getfield 7) 3 32 := ⟨by decide +kernel, rfl⟩
theorem dd_Mod_why_32 : Dc mi_Mod_why 32 (.sipush 454) 3 35 := ⟨by decide +kernel, rfl⟩
theorem dd_Mod_why_35 : Dc mi_Mod_why 35 (.iload_n 1) 1 36 := ⟨by decide +kernel, rfl⟩
theorem dd_Mod_why_36 : Dc mi_Mod_why 36 (.iadd) 1 37 := ⟨by decide +kernel, rfl⟩
theorem dd_Mod_why_37 : Dc mi_Mod_why 37 (.iaload) 1 38 := ⟨by decide +kernel, rfl⟩
theorem dd_Mod_why_38 : Db mi_Mod_why 38 (.if_icmp .le 5) 5 41 43 := ⟨by decide +kernel, rfl, rfl⟩
theorem dd_Mod_why_41 : Dc mi_Mod_why 41 (.iconst 2) 1 42 := ⟨by decide +kernel, rfl⟩
theorem dd_Mod_why_42 : decode (mbc mi_Mod_why) 42 = .ok (retI (mrt mi_Mod_why), 1) := by decide +kernel
theorem dd_Mod_why_43 : Dc mi_Mod_why 43 (.aload_n 0) 1 44 := ⟨by decide +kernel, rfl⟩
theorem dd_Mod_why_44 : Dc mi_Mod_why 44 (.iload_n 3) 1 45 := ⟨by decide +kernel, rfl⟩
theorem dd_Mod_why_45 : Dc mi_Mod_why 45 (.invokevirtual 59) 3 48 := ⟨by decide +kernel, rfl⟩
theorem dd_Mod_why_48 : Dc mi_Mod_why 48 (.bipush (-5)) 2 50 := ⟨by decide +kernel, rfl⟩
theorem dd_Mod_why_50 : Db mi_Mod_why 50 (.if_icmp .ne 40) 40 53 90 := ⟨by decide +kernel, rfl, rfl⟩
theorem dd_Mod_why_53 : Dc mi_Mod_why 53 (.iload_n 3) 1 54 := ⟨by decide +kernel, rfl⟩
theorem dd_Mod_why_54 : Dc mi_Mod_why 54 (.bipush 8) 2 56 := ⟨by decide +kernel, rfl⟩
theorem dd_Mod_why_56 : Db mi_Mod_why 56 (.if_icmp .gt 14) 14 59 70 := ⟨by decide +kernel, rfl, rfl⟩
theorem dd_Mod_why_59 : Dc mi_Mod_why 59 (.aload_n 0) 1 60 := ⟨by decide +kernel, rfl⟩
theorem dd_Mod_why_60 : Dc mi_Mod_why 60 (.bipush 16) 2 62 := ⟨by decide +kernel, rfl⟩
theorem dd_Mod_why_62 : Dc mi_Mod_why 62 (.invokevirtual 59) 3 65 := ⟨by decide +kernel, rfl⟩
theorem dd_Mod_why_65 : Dc mi_Mod_why 65 (.bipush (-5)) 2 67 := ⟨by decide +kernel, rfl⟩
theorem dd_Mod_why_67 : Db mi_Mod_why 67 (.if_icmp .ne 23) 23 70 90 := ⟨by decide +kernel, rfl, rfl⟩
theorem dd_Mod_why_70 : Dc mi_Mod_why 70 (.iload_n 3) 1 71 := ⟨by decide +kernel, rfl⟩
theorem dd_Mod_why_71 : Dc mi_Mod_why 71 (.iconst 4) 1 72 := ⟨by decide +kernel, rfl⟩
theorem dd_Mod_why_72 : Db mi_Mod_why 72 (.if_icmp .gt 14) 14 75 86 := ⟨by decide +kernel, rfl, rfl⟩
theorem dd_Mod_why_75 : Dc mi_Mod_why 75 (.aload_n 0) 1 76 := ⟨by decide +kernel, rfl⟩
theorem dd_Mod_why_76 : Dc mi_Mod_why 76 (.bipush 8) 2 78 := ⟨by decide +kernel, rfl⟩
theorem dd_Mod_why_78 : Dc mi_Mod_why 78 (.invokevirtual 59) 3 81 := ⟨by decide +kernel, rfl⟩
theorem dd_Mod_why_81 : Dc mi_Mod_why 81 (.bipush (-5)) 2 83 := ⟨by decide +kernel, rfl⟩
theorem dd_Mod_why_83 : Db mi_Mod_why 83 (.if_icmp .ne 7) 7 86 90 := ⟨by decide +kernel, rfl, rfl⟩
theorem dd_Mod_why_86 : Dc mi_Mod_why 86 (.iconst 3) 1 87 := ⟨by decide +kernel, rfl⟩
theorem dd_Mod_why_87 : Db mi_Mod_why 87 (.goto 4) 4 90 91 := ⟨by decide +kernel, rfl, rfl⟩
theorem dd_Mod_why_90 : Dc mi_Mod_why 90 (.iconst 0) 1 91 := ⟨by decide +kernel, rfl⟩
theorem dd_Mod_why_91 : decode (mbc mi_Mod_why) 91 = .ok (retI (mrt mi_Mod_why), 1) := by decide +kernel
theorem dd_Mod_sizeFor_0 : Dc mi_Mod_sizeFor 0 (.iload_n 0) 1 1 := ⟨by decide +kernel, rfl⟩
theorem dd_Mod_sizeFor_1 : Dc mi_Mod_sizeFor 1 (.iconst 2) 1 2 := ⟨by decide +kernel, rfl⟩
theorem dd_Mod_sizeFor_2 : Db mi_Mod_sizeFor 2 (.if_icmp .gt 7) 7 5 9 := ⟨by decide +kernel, rfl, rfl⟩
theorem dd_Mod_sizeFor_5 : Dc mi_Mod_sizeFor 5 (.iconst 4) 1 6 := ⟨by decide +kernel, rfl⟩
theorem dd_Mod_sizeFor_6 : Db mi_Mod_sizeFor 6 (.goto 16) 16 9 22 := ⟨by decide +kernel, rfl, rfl⟩
theorem dd_Mod_sizeFor_9 : Dc mi_Mod_sizeFor 9 (.iload_n 0) 1 10 := ⟨by decide +kernel, rfl⟩
theorem dd_Mod_sizeFor_10 : Dc mi_Mod_sizeFor 10 (.bipush 6) 2 12 := ⟨by decide +kernel, rfl⟩
theorem dd_Mod_sizeFor_12 : Db mi_Mod_sizeFor 12 (.if_icmp .gt 8) 8 15 20 := ⟨by decide +kernel, rfl, rfl⟩
theorem dd_Mod_sizeFor_15 : Dc mi_Mod_sizeFor 15 (.bipush 8) 2 17 := ⟨by decide +kernel, rfl⟩
theorem dd_Mod_sizeFor_17 : Db mi_Mod_sizeFor 17 (.goto 5) 5 20 22 := ⟨by decide +kernel, rfl, rfl⟩
theorem dd_Mod_sizeFor_20 : Dc mi_Mod_sizeFor 20 (.bipush 16) 2 22 := ⟨by decide +kernel, rfl⟩
theorem dd_Mod_sizeFor_22 : decode (mbc mi_Mod_sizeFor) 22 = .ok (retI (mrt mi_Mod_sizeFor), 1) := by decide +kernel
theorem dd_Mod_wordsOf_0 : Dc mi_Mod_wordsOf 0 (.iconst 0) 1 1 := ⟨by decide +kernel, rfl⟩
theorem dd_Mod_wordsOf_1 : Dc mi_Mod_wordsOf 1 (.istore_n 2) 1 2 := ⟨by decide +kernel, rfl⟩
theorem dd_Mod_wordsOf_2 : Dc mi_Mod_wordsOf 2 (.iconst 0) 1 3 := ⟨by decide +kernel, rfl⟩
theorem dd_Mod_wordsOf_3 : Dc mi_Mod_wordsOf 3 (.istore_n 3) 1 4 := ⟨by decide +kernel, rfl⟩
theorem dd_Mod_wordsOf_4 : Dc mi_Mod_wordsOf 4 (.iload_n 3) 1 5 := ⟨by decide +kernel, rfl⟩
theorem dd_Mod_wordsOf_5 : Dc mi_Mod_wordsOf 5 (.bipush 64) 2 7 := ⟨by decide +kernel, rfl⟩
theorem dd_Mod_wordsOf_7 : Db mi_Mod_wordsOf 7 (.if_icmp .ge 48) 48 10 55 := ⟨by decide +kernel, rfl, rfl⟩
theorem dd_Mod_wordsOf_10 : Dc mi_Mod_wordsOf 10 (.iload_n 2) 1 11 := ⟨by decide +kernel, rfl⟩
theorem dd_Mod_wordsOf_11 : Dc mi_Mod_wordsOf 11 (.aload_n 0) 1 12 := ⟨by decide +kernel, rfl⟩
theorem dd_Mod_wordsOf_12 : Dc mi_Mod_wordsOf 12 (.iload_n 3) 1 13 := ⟨by decide +kernel, rfl⟩
theorem dd_Mod_wordsOf_13 : Dc mi_Mod_wordsOf 13 (.invokevirtual 42) 3 16 := ⟨by decide +kernel, rfl⟩
theorem dd_Mod_wordsOf_16 : Db mi_Mod_wordsOf 16 (.ifCond .eq 30) 30 19 46 := ⟨by decide +kernel, rfl, rfl⟩
theorem dd_Mod_wordsOf_19 : Dc mi_Mod_wordsOf 19 (.aload_n 0) 1 20 := ⟨by decide +kernel, rfl⟩
theorem dd_Mod_wordsOf_20 : Dc mi_Mod_wordsOf 20 (.getfield 7) 3 23 := ⟨by decide +kernel, rfl⟩
theorem dd_Mod_wordsOf_23 : Dc mi_Mod_wordsOf 23 (.sipush 256) 3 26 := ⟨by decide +kernel, rfl⟩
theorem dd_Mod_wordsOf_26 : Dc mi_Mod_wordsOf 26 (.iload_n 3) 1 27 := ⟨by decide +kernel, rfl⟩
theorem dd_Mod_wordsOf_27 : Dc mi_Mod_wordsOf 27 (.iadd) 1 28 := ⟨by decide +kernel, rfl⟩
theorem dd_Mod_wordsOf_28 : Dc mi_Mod_wordsOf 28 (.iaload) 1 29 := ⟨by decide +kernel, rfl⟩
theorem dd_Mod_wordsOf_29 : Dc mi_Mod_wordsOf 29 (.iload_n 1) 1 30 := ⟨by decide +kernel, rfl⟩
theorem dd_Mod_wordsOf_30 : Db mi_Mod_wordsOf 30 (.if_icmp .ne 16) 16 33 46 := ⟨by decide +kernel, rfl, rfl⟩
theorem dd_Mod_wordsOf_33 : Dc mi_Mod_wordsOf 33 (.aload_n 0) 1 34 := ⟨by decide +kernel, rfl⟩
theorem dd_Mod_wordsOf_34 : Dc mi_Mod_wordsOf 34 (.getfield 7) 3 37 := ⟨by decide +kernel, rfl⟩
theorem dd_Mod_wordsOf_37 : Dc mi_Mod_wordsOf 37 (.sipush 128) 3 40 := ⟨by decide +kernel, rfl⟩
theorem dd_Mod_wordsOf_40 : Dc mi_Mod_wordsOf 40 (.iload_n 3) 1 41 := ⟨by decide +kernel, rfl⟩
theorem dd_Mod_wordsOf_41 : Dc mi_Mod_wordsOf 41 (.iadd) 1 42 := ⟨by decide +kernel, rfl⟩
theorem dd_Mod_wordsOf_42 : Dc mi_Mod_wordsOf 42 (.iaload) 1 43 := ⟨by decide +kernel, rfl⟩
theorem dd_Mod_wordsOf_43 : Db mi_Mod_wordsOf 43 (.goto 4) 4 46 47 := ⟨by decide +kernel, rfl, rfl⟩
theorem dd_Mod_wordsOf_46 : Dc mi_Mod_wordsOf 46 (.iconst 0) 1 47 := ⟨by decide +kernel, rfl⟩
theorem dd_Mod_wordsOf_47 : Dc mi_Mod_wordsOf 47 (.iadd) 1 48 := ⟨by decide +kernel, rfl⟩
theorem dd_Mod_wordsOf_48 : Dc mi_Mod_wordsOf 48 (.istore_n 2) 1 49 := ⟨by decide +kernel, rfl⟩
theorem dd_Mod_wordsOf_49 : Dc mi_Mod_wordsOf 49 (.iinc 3 1) 3 52 := ⟨by decide +kernel, rfl⟩
theorem dd_Mod_wordsOf_52 : Db mi_Mod_wordsOf 52 (.goto (-48)) (-48) 55 4 := ⟨by decide +kernel, rfl, rfl⟩
theorem dd_Mod_wordsOf_55 : Dc mi_Mod_wordsOf 55 (.iload_n 2) 1 56 := ⟨by decide +kernel, rfl⟩
theorem dd_Mod_wordsOf_56 : decode (mbc mi_Mod_wordsOf) 56 = .ok (retI (mrt mi_Mod_wordsOf), 1) := by decide +kernel
theorem dd_Mod_isOwned_0 : Dc mi_Mod_isOwned 0 (.aload_n 0) 1 1 := ⟨by decide +kernel, rfl⟩
theorem dd_Mod_isOwned_1 : Dc mi_Mod_isOwned 1 (.getfield 7) 3 4 := ⟨by decide +kernel, rfl⟩
theorem dd_Mod_isOwned_4 : Dc mi_Mod_isOwned 4 (.sipush 128) 3 7 := ⟨by decide +kernel, rfl⟩
theorem dd_Mod_isOwned_7 : Dc mi_Mod_isOwned 7 (.iload_n 1) 1 8 := ⟨by decide +kernel, rfl⟩
theorem dd_Mod_isOwned_8 : Dc mi_Mod_isOwned 8 (.iadd) 1 9 := ⟨by decide +kernel, rfl⟩
theorem dd_Mod_isOwned_9 : Dc mi_Mod_isOwned 9 (.iaload) 1 10 := ⟨by decide +kernel, rfl⟩
theorem dd_Mod_isOwned_10 : Db mi_Mod_isOwned 10 (.ifCond .le 22) 22 13 32 := ⟨by decide +kernel, rfl, rfl⟩
theorem dd_Mod_isOwned_13 : Dc mi_Mod_isOwned 13 (.aload_n 0) 1 14 := ⟨by decide +kernel, rfl⟩
theorem dd_Mod_isOwned_14 : Dc mi_Mod_isOwned 14 (.getfield 7) 3 17 := ⟨by decide +kernel, rfl⟩
theorem dd_Mod_isOwned_17 : Dc mi_Mod_isOwned 17 (.sipush 192) 3 20 := ⟨by decide +kernel, rfl⟩
theorem dd_Mod_isOwned_20 : Dc mi_Mod_isOwned 20 (.iload_n 1) 1 21 := ⟨by decide +kernel, rfl⟩
theorem dd_Mod_isOwned_21 : Dc mi_Mod_isOwned 21 (.iadd) 1 22 := ⟨by decide +kernel, rfl⟩
theorem dd_Mod_isOwned_22 : Dc mi_Mod_isOwned 22 (.iaload) 1 23 := ⟨by decide +kernel, rfl⟩
theorem dd_Mod_isOwned_23 : Dc mi_Mod_isOwned 23 (.bipush (-5)) 2 25 := ⟨by decide +kernel, rfl⟩
theorem dd_Mod_isOwned_25 : Db mi_Mod_isOwned 25 (.if_icmp .eq 7) 7 28 32 := ⟨by decide +kernel, rfl, rfl⟩
theorem dd_Mod_isOwned_28 : Dc mi_Mod_isOwned 28 (.iconst 1) 1 29 := ⟨by decide +kernel, rfl⟩
theorem dd_Mod_isOwned_29 : Db mi_Mod_isOwned 29 (.goto 4) 4 32 33 := ⟨by decide +kernel, rfl, rfl⟩
theorem dd_Mod_isOwned_32 : Dc mi_Mod_isOwned 32 (.iconst 0) 1 33 := ⟨by decide +kernel, rfl⟩
theorem dd_Mod_isOwned_33 : decode (mbc mi_Mod_isOwned) 33 = .ok (retI (mrt mi_Mod_isOwned), 1) := by decide +kernel
theorem dd_Mod_lowestFree_0 : Dc mi_Mod_lowestFree 0 (.iconst 0) 1 1 := ⟨by decide +kernel, rfl⟩
theorem dd_Mod_lowestFree_1 : Dc mi_Mod_lowestFree 1 (.istore_n 2) 1 2 := ⟨by decide +kernel, rfl⟩
theorem dd_Mod_lowestFree_2 : Dc mi_Mod_lowestFree 2 (.iload_n 2) 1 3 := ⟨by decide +kernel, rfl⟩
theorem dd_Mod_lowestFree_3 : Dc mi_Mod_lowestFree 3 (.bipush 64) 2 5 := ⟨by decide +kernel, rfl⟩
theorem dd_Mod_lowestFree_5 : Db mi_Mod_lowestFree 5 (.if_icmp .ge 33) 33 8 38 := ⟨by decide +kernel, rfl, rfl⟩
theorem dd_Mod_lowestFree_8 : Dc mi_Mod_lowestFree 8 (.aload_n 0) 1 9 := ⟨by decide +kernel, rfl⟩
theorem dd_Mod_lowestFree_9 : Dc mi_Mod_lowestFree 9 (.iload_n 2) 1 10 := ⟨by decide +kernel, rfl⟩
theorem dd_Mod_lowestFree_10 : Dc mi_Mod_lowestFree 10 (.invokevirtual 50) 3 13 := ⟨by decide +kernel, rfl⟩
theorem dd_Mod_lowestFree_13 : Db mi_Mod_lowestFree 13 (.ifCond .eq 19) 19 16 32 := ⟨by decide +kernel, rfl, rfl⟩
theorem dd_Mod_lowestFree_16 : Dc mi_Mod_lowestFree 16 (.aload_n 0) 1 17 := ⟨by decide +kernel, rfl⟩
theorem dd_Mod_lowestFree_17 : Dc mi_Mod_lowestFree 17 (.getfield 7) 3 20 := ⟨by decide +kernel, rfl⟩
theorem dd_Mod_lowestFree_20 : Dc mi_Mod_lowestFree 20 (.sipush 128) 3 23 := ⟨by decide +kernel, rfl⟩
theorem dd_Mod_lowestFree_23 : Dc mi_Mod_lowestFree 23 (.iload_n 2) 1 24 := ⟨by decide +kernel, rfl⟩
theorem dd_Mod_lowestFree_24 : Dc mi_Mod_lowestFree 24 (.iadd) 1 25 := ⟨by decide +kernel, rfl⟩
theorem dd_Mod_lowestFree_25 : Dc mi_Mod_lowestFree 25 (.iaload) 1 26 := ⟨by decide +kernel, rfl⟩
theorem dd_Mod_lowestFree_26 : Dc mi_Mod_lowestFree 26 (.iload_n 1) 1 27 := ⟨by decide +kernel, rfl⟩
theorem dd_Mod_lowestFree_27 : Db mi_Mod_lowestFree 27 (.if_icmp .ne 5) 5 30 32 := ⟨by decide +kernel, rfl, rfl⟩
theorem dd_Mod_lowestFree_30 : Dc mi_Mod_lowestFree 30 (.iload_n 2) 1 31 := ⟨by decide +kernel, rfl⟩
theorem dd_Mod_lowestFree_31 : decode (mbc mi_Mod_lowestFree) 31 = .ok (retI (mrt mi_Mod_lowestFree), 1) := by decide +kernel
theorem dd_Mod_lowestFree_32 : Dc mi_Mod_lowestFree 32 (.iinc 2 1) 3 35 := ⟨by decide +kernel, rfl⟩
theorem dd_Mod_lowestFree_35 : Db mi_Mod_lowestFree 35 (.goto (-33)) (-33) 38 2 := ⟨by decide +kernel, rfl, rfl⟩
theorem dd_Mod_lowestFree_38 : Dc mi_Mod_lowestFree 38 (.bipush (-5)) 2 40 := ⟨by decide +kernel, rfl⟩
theorem dd_Mod_lowestFree_40 : decode (mbc mi_Mod_lowestFree) 40 = .ok (retI (mrt mi_Mod_lowestFree), 1) := by decide +kernel
theorem dd_Mod_isFree_0 : Dc mi_Mod_isFree 0 (.aload_n 0) 1 1 := ⟨by decide +kernel, rfl⟩
theorem dd_Mod_isFree_1 : Dc mi_Mod_isFree 1 (.getfield 7) 3 4 := ⟨by decide +kernel, rfl⟩
theorem dd_Mod_isFree_4 : Dc mi_Mod_isFree 4 (.sipush 128) 3 7 := ⟨by decide +kernel, rfl⟩
theorem dd_Mod_isFree_7 : Dc mi_Mod_isFree 7 (.iload_n 1) 1 8 := ⟨by decide +kernel, rfl⟩
theorem dd_Mod_isFree_8 : Dc mi_Mod_isFree 8 (.iadd) 1 9 := ⟨by decide +kernel, rfl⟩
theorem dd_Mod_isFree_9 : Dc mi_Mod_isFree 9 (.iaload) 1 10 := ⟨by decide +kernel, rfl⟩
theorem dd_Mod_isFree_10 : Db mi_Mod_isFree 10 (.ifCond .le 22) 22 13 32 := ⟨by decide +kernel, rfl, rfl⟩
theorem dd_Mod_isFree_13 : Dc mi_Mod_isFree 13 (.aload_n 0) 1 14 := ⟨by decide +kernel, rfl⟩
theorem dd_Mod_isFree_14 : Dc mi_Mod_isFree 14 (.getfield 7) 3 17 := ⟨by decide +kernel, rfl⟩
theorem dd_Mod_isFree_17 : Dc mi_Mod_isFree 17 (.sipush 192) 3 20 := ⟨by decide +kernel, rfl⟩
theorem dd_Mod_isFree_20 : Dc mi_Mod_isFree 20 (.iload_n 1) 1 21 := ⟨by decide +kernel, rfl⟩
theorem dd_Mod_isFree_21 : Dc mi_Mod_isFree 21 (.iadd) 1 22 := ⟨by decide +kernel, rfl⟩
theorem dd_Mod_isFree_22 : Dc mi_Mod_isFree 22 (.iaload) 1 23 := ⟨by decide +kernel, rfl⟩
theorem dd_Mod_isFree_23 : Dc mi_Mod_isFree 23 (.bipush (-5)) 2 25 := ⟨by decide +kernel, rfl⟩
theorem dd_Mod_isFree_25 : Db mi_Mod_isFree 25 (.if_icmp .ne 7) 7 28 32 := ⟨by decide +kernel, rfl, rfl⟩
theorem dd_Mod_isFree_28 : Dc mi_Mod_isFree 28 (.iconst 1) 1 29 := ⟨by decide +kernel, rfl⟩
theorem dd_Mod_isFree_29 : Db mi_Mod_isFree 29 (.goto 4) 4 32 33 := ⟨by decide +kernel, rfl, rfl⟩
theorem dd_Mod_isFree_32 : Dc mi_Mod_isFree 32 (.iconst 0) 1 33 := ⟨by decide +kernel, rfl⟩
theorem dd_Mod_isFree_33 : decode (mbc mi_Mod_isFree) 33 = .ok (retI (mrt mi_Mod_isFree), 1) := by decide +kernel
theorem dd_Mod_know_0 : Dc mi_Mod_know 0 (.aload_n 0) 1 1 := ⟨by decide +kernel, rfl⟩
theorem dd_Mod_know_1 : Dc mi_Mod_know 1 (.getfield 39) 3 4 := ⟨by decide +kernel, rfl⟩
theorem dd_Mod_know_4 : Dc mi_Mod_know 4 (.iconst 4) 1 5 := ⟨by decide +kernel, rfl⟩
theorem dd_Mod_know_5 : Db mi_Mod_know 5 (.if_icmp .ne 44) 44 8 49 := ⟨by decide +kernel, rfl, rfl⟩
theorem dd_Mod_know_8 : Dc mi_Mod_know 8 (.iconst 0) 1 9 := ⟨by decide +kernel, rfl⟩
theorem dd_Mod_know_9 : Dc mi_Mod_know 9 (.istore_n 1) 1 10 := ⟨by decide +kernel, rfl⟩
theorem dd_Mod_know_10 : Dc mi_Mod_know 10 (.iload_n 1) 1 11 := ⟨by decide +kernel, rfl⟩
theorem dd_Mod_know_11 : Dc mi_Mod_know 11 (.sipush 1416) 3 14 := ⟨by decide +kernel, rfl⟩
theorem dd_Mod_know_14 : Db mi_Mod_know 14 (.if_icmp .ge 25) 25 17 39 := ⟨by decide +kernel, rfl, rfl⟩
theorem dd_Mod_know_17 : Dc mi_Mod_know 17 (.aload_n 0) 1 18 := ⟨by decide +kernel, rfl⟩
theorem dd_Mod_know_18 : Dc mi_Mod_know 18 (.getfield 16) 3 21 := ⟨by decide +kernel, rfl⟩
theorem dd_Mod_know_21 : Dc mi_Mod_know 21 (.iload_n 1) 1 22 := ⟨by decide +kernel, rfl⟩
theorem dd_Mod_know_22 : Dc mi_Mod_know 22 (.aload_n 0) 1 23 := ⟨by decide +kernel, rfl⟩
theorem dd_Mod_know_23 : Dc mi_Mod_know 23 (.getfield 16) 3 26 := ⟨by decide +kernel, rfl⟩
theorem dd_Mod_know_26 : Dc mi_Mod_know 26 (.sipush 472) 3 29 := ⟨by decide +kernel, rfl⟩
theorem dd_Mod_know_29 : Dc mi_Mod_know 29 (.iload_n 1) 1 30 := ⟨by decide +kernel, rfl⟩
theorem dd_Mod_know_30 : Dc mi_Mod_know 30 (.iadd) 1 31 := ⟨by decide +kernel, rfl⟩
theorem dd_Mod_know_31 : Dc mi_Mod_know 31 (.iaload) 1 32 := ⟨by decide +kernel, rfl⟩
theorem dd_Mod_know_32 : Dc mi_Mod_know 32 (.iastore) 1 33 := ⟨by decide +kernel, rfl⟩
theorem dd_Mod_know_33 : Dc mi_Mod_know 33 (.iinc 1 1) 3 36 := ⟨by decide +kernel, rfl⟩
theorem dd_Mod_know_36 : Db mi_Mod_know 36 (.goto (-26)) (-26) 39 10 := ⟨by decide +kernel, rfl, rfl⟩
theorem dd_Mod_know_39 : Dc mi_Mod_know 39 (.aload_n 0) 1 40 := ⟨by decide +kernel, rfl⟩
theorem dd_Mod_know_40 : Dc mi_Mod_know 40 (.dup) 1 41 := ⟨by decide +kernel, rfl⟩
theorem dd_Mod_know_41 : Dc mi_Mod_know 41 (.getfield 39) 3 44 := ⟨by decide +kernel, rfl⟩
theorem dd_Mod_know_44 : Dc mi_Mod_know 44 (.iconst 1) 1 45 := ⟨by decide +kernel, rfl⟩
theorem dd_Mod_know_45 : Dc mi_Mod_know 45 (.isub) 1 46 := ⟨by decide +kernel, rfl⟩
theorem dd_Mod_know_46 : Dc mi_Mod_know 46 (.putfield 39) 3 49 := ⟨by decide +kernel, rfl⟩
theorem dd_Mod_know_49 : Dc mi_Mod_know 49 (.iconst 0) 1 50 := ⟨by decide +kernel, rfl⟩
theorem dd_Mod_know_50 : Dc mi_Mod_know 50 (.istore_n 1) 1 51 := ⟨by decide +kernel, rfl⟩
theorem dd_Mod_know_51 : Dc mi_Mod_know 51 (.iload_n 1) 1 52 := ⟨by decide +kernel, rfl⟩
theorem dd_Mod_know_52 : Dc mi_Mod_know 52 (.sipush 472) 3 55 := ⟨by decide +kernel, rfl⟩
theorem dd_Mod_know_55 : Db mi_Mod_know 55 (.if_icmp .ge 30) 30 58 85 := ⟨by decide +kernel, rfl, rfl⟩
theorem dd_Mod_know_58 : Dc mi_Mod_know 58 (.aload_n 0) 1 59 := ⟨by decide +kernel, rfl⟩
theorem dd_Mod_know_59 : Dc mi_Mod_know 59 (.getfield 16) 3 62 := ⟨by decide +kernel, rfl⟩
theorem dd_Mod_know_62 : Dc mi_Mod_know 62 (.sipush 472) 3 65 := ⟨by decide +kernel, rfl⟩
theorem dd_Mod_know_65 : Dc mi_Mod_know 65 (.aload_n 0) 1 66 := ⟨by decide +kernel, rfl⟩
theorem dd_Mod_know_66 : Dc mi_Mod_know 66 (.getfield 39) 3 69 := ⟨by decide +kernel, rfl⟩
theorem dd_Mod_know_69 : Dc mi_Mod_know 69 (.imul) 1 70 := ⟨by decide +kernel, rfl⟩
theorem dd_Mod_know_70 : Dc mi_Mod_know 70 (.iload_n 1) 1 71 := ⟨by decide +kernel, rfl⟩
theorem dd_Mod_know_71 : Dc mi_Mod_know 71 (.iadd) 1 72 := ⟨by decide +kernel, rfl⟩
theorem dd_Mod_know_72 : Dc mi_Mod_know 72 (.aload_n 0) 1 73 := ⟨by decide +kernel, rfl⟩
theorem dd_Mod_know_73 : Dc mi_Mod_know 73 (.getfield 7) 3 76 := ⟨by decide +kernel, rfl⟩
theorem dd_Mod_know_76 : Dc mi_Mod_know 76 (.iload_n 1) 1 77 := ⟨by decide +kernel, rfl⟩
theorem dd_Mod_know_77 : Dc mi_Mod_know 77 (.iaload) 1 78 := ⟨by decide +kernel, rfl⟩
theorem dd_Mod_know_78 : Dc mi_Mod_know 78 (.iastore) 1 79 := ⟨by decide +kernel, rfl⟩
theorem dd_Mod_know_79 : Dc mi_Mod_know 79 (.iinc 1 1) 3 82 := ⟨by decide +kernel, rfl⟩
theorem dd_Mod_know_82 : Db mi_Mod_know 82 (.goto (-31)) (-31) 85 51 := ⟨by decide +kernel, rfl, rfl⟩
theorem dd_Mod_know_85 : Dc mi_Mod_know 85 (.aload_n 0) 1 86 := ⟨by decide +kernel, rfl⟩
theorem dd_Mod_know_86 : Dc mi_Mod_know 86 (.dup) 1 87 := ⟨by decide +kernel, rfl⟩
theorem dd_Mod_know_87 : Dc mi_Mod_know 87 (.getfield 39) 3 90 := ⟨by decide +kernel, rfl⟩
theorem dd_Mod_know_90 : Dc mi_Mod_know 90 (.iconst 1) 1 91 := ⟨by decide +kernel, rfl⟩
theorem dd_Mod_know_91 : Dc mi_Mod_know 91 (.iadd) 1 92 := ⟨by decide +kernel, rfl⟩
theorem dd_Mod_know_92 : Dc mi_Mod_know 92 (.putfield 39) 3 95 := ⟨by decide +kernel, rfl⟩
theorem dd_Mod_know_95 : decode (mbc mi_Mod_know) 95 = .ok (retI (mrt mi_Mod_know), 1) := by decide +kernel
theorem dd_Mod_asks_0 : Dc mi_Mod_asks 0 (.aload_n 0) 1 1 := ⟨by decide +kernel, rfl⟩
theorem dd_Mod_asks_1 : Dc mi_Mod_asks 1 (.iload_n 2) 1 2 := ⟨by decide +kernel, rfl⟩
theorem dd_Mod_asks_2 : Dc mi_Mod_asks 2 (.invokestatic 53) 3 5 := ⟨by decide +kernel, rfl⟩
theorem dd_Mod_asks_5 : Dc mi_Mod_asks 5 (.invokevirtual 62) 3 8 := ⟨by decide +kernel, rfl⟩
theorem dd_Mod_asks_8 : Dc mi_Mod_asks 8 (.istore_n 3) 1 9 := ⟨by decide +kernel, rfl⟩
theorem dd_Mod_asks_9 : Dc mi_Mod_asks 9 (.aload_n 0) 1 10 := ⟨by decide +kernel, rfl⟩
theorem dd_Mod_asks_10 : Dc mi_Mod_asks 10 (.getfield 7) 3 13 := ⟨by decide +kernel, rfl⟩
theorem dd_Mod_asks_13 : Dc mi_Mod_asks 13 (.sipush 192) 3 16 := ⟨by decide +kernel, rfl⟩
theorem dd_Mod_asks_16 : Dc mi_Mod_asks 16 (.iload_n 3) 1 17 := ⟨by decide +kernel, rfl⟩
theorem dd_Mod_asks_17 : Dc mi_Mod_asks 17 (.iadd) 1 18 := ⟨by decide +kernel, rfl⟩
theorem dd_Mod_asks_18 : Dc mi_Mod_asks 18 (.aload_n 0) 1 19 := ⟨by decide +kernel, rfl⟩
theorem dd_Mod_asks_19 : Dc mi_Mod_asks 19 (.getfield 7) 3 22 := ⟨by decide +kernel, rfl⟩
theorem dd_Mod_asks_22 : Dc mi_Mod_asks 22 (.sipush 471) 3 25 := ⟨by decide +kernel, rfl⟩
theorem dd_Mod_asks_25 : Dc mi_Mod_asks 25 (.iaload) 1 26 := ⟨by decide +kernel, rfl⟩
theorem dd_Mod_asks_26 : Dc mi_Mod_asks 26 (.iastore) 1 27 := ⟨by decide +kernel, rfl⟩
theorem dd_Mod_asks_27 : Dc mi_Mod_asks 27 (.aload_n 0) 1 28 := ⟨by decide +kernel, rfl⟩
theorem dd_Mod_asks_28 : Dc mi_Mod_asks 28 (.getfield 7) 3 31 := ⟨by decide +kernel, rfl⟩
theorem dd_Mod_asks_31 : Dc mi_Mod_asks 31 (.sipush 256) 3 34 := ⟨by decide +kernel, rfl⟩
theorem dd_Mod_asks_34 : Dc mi_Mod_asks 34 (.iload_n 3) 1 35 := ⟨by decide +kernel, rfl⟩
theorem dd_Mod_asks_35 : Dc mi_Mod_asks 35 (.iadd) 1 36 := ⟨by decide +kernel, rfl⟩
theorem dd_Mod_asks_36 : Dc mi_Mod_asks 36 (.iload_n 1) 1 37 := ⟨by decide +kernel, rfl⟩
theorem dd_Mod_asks_37 : Dc mi_Mod_asks 37 (.iastore) 1 38 := ⟨by decide +kernel, rfl⟩
theorem dd_Mod_asks_38 : Dc mi_Mod_asks 38 (.aload_n 0) 1 39 := ⟨by decide +kernel, rfl⟩
theorem dd_Mod_asks_39 : Dc mi_Mod_asks 39 (.getfield 7) 3 42 := ⟨by decide +kernel, rfl⟩
theorem dd_Mod_asks_42 : Dc mi_Mod_asks 42 (.sipush 320) 3 45 := ⟨by decide +kernel, rfl⟩
theorem dd_Mod_asks_45 : Dc mi_Mod_asks 45 (.iload_n 3) 1 46 := ⟨by decide +kernel, rfl⟩
theorem dd_Mod_asks_46 : Dc mi_Mod_asks 46 (.iadd) 1 47 := ⟨by decide +kernel, rfl⟩
theorem dd_Mod_asks_47 : Dc mi_Mod_asks 47 (.iload_n 2) 1 48 := ⟨by decide +kernel, rfl⟩
theorem dd_Mod_asks_48 : Dc mi_Mod_asks 48 (.iastore) 1 49 := ⟨by decide +kernel, rfl⟩
theorem dd_Mod_asks_49 : Dc mi_Mod_asks 49 (.aload_n 0) 1 50 := ⟨by decide +kernel, rfl⟩
theorem dd_Mod_asks_50 : Dc mi_Mod_asks 50 (.getfield 7) 3 53 := ⟨by decide +kernel, rfl⟩
theorem dd_Mod_asks_53 : Dc mi_Mod_asks 53 (.sipush 384) 3 56 := ⟨by decide +kernel, rfl⟩
theorem dd_Mod_asks_56 : Dc mi_Mod_asks 56 (.iload_n 3) 1 57 := ⟨by decide +kernel, rfl⟩
theorem dd_Mod_asks_57 : Dc mi_Mod_asks 57 (.iadd) 1 58 := ⟨by decide +kernel, rfl⟩
theorem dd_Mod_asks_58 : Dc mi_Mod_asks 58 (.aload_n 0) 1 59 := ⟨by decide +kernel, rfl⟩
theorem dd_Mod_asks_59 : Dc mi_Mod_asks 59 (.getfield 7) 3 62 := ⟨by decide +kernel, rfl⟩
theorem dd_Mod_asks_62 : Dc mi_Mod_asks 62 (.sipush 466) 3 65 := ⟨by decide +kernel, rfl⟩
theorem dd_Mod_asks_65 : Dc mi_Mod_asks 65 (.iaload) 1 66 := ⟨by decide +kernel, rfl⟩
theorem dd_Mod_asks_66 : Dc mi_Mod_asks 66 (.iastore) 1 67 := ⟨by decide +kernel, rfl⟩
theorem dd_Mod_asks_67 : Dc mi_Mod_asks 67 (.aload_n 0) 1 68 := ⟨by decide +kernel, rfl⟩
theorem dd_Mod_asks_68 : Dc mi_Mod_asks 68 (.getfield 7) 3 71 := ⟨by decide +kernel, rfl⟩
theorem dd_Mod_asks_71 : Dc mi_Mod_asks 71 (.sipush 471) 3 74 := ⟨by decide +kernel, rfl⟩
theorem dd_Mod_asks_74 : Dc mi_Mod_asks 74 (.dup2) 1 75 := ⟨by decide +kernel, rfl⟩
theorem dd_Mod_asks_75 : Dc mi_Mod_asks 75 (.iaload) 1 76 := ⟨by decide +kernel, rfl⟩
theorem dd_Mod_asks_76 : Dc mi_Mod_asks 76 (.iconst 1) 1 77 := ⟨by decide +kernel, rfl⟩
theorem dd_Mod_asks_77 : Dc mi_Mod_asks 77 (.iadd) 1 78 := ⟨by decide +kernel, rfl⟩
theorem dd_Mod_asks_78 : Dc mi_Mod_asks 78 (.iastore) 1 79 := ⟨by decide +kernel, rfl⟩
theorem dd_Mod_asks_79 : Dc mi_Mod_asks 79 (.aload_n 0) 1 80 := ⟨by decide +kernel, rfl⟩
theorem dd_Mod_asks_80 : Dc mi_Mod_asks 80 (.getfield 7) 3 83 := ⟨by decide +kernel, rfl⟩
theorem dd_Mod_asks_83 : Dc mi_Mod_asks 83 (.sipush 471) 3 86 := ⟨by decide +kernel, rfl⟩
theorem dd_Mod_asks_86 : Dc mi_Mod_asks 86 (.iaload) 1 87 := ⟨by decide +kernel, rfl⟩
theorem dd_Mod_asks_87 : Dc mi_Mod_asks 87 (.iconst 1) 1 88 := ⟨by decide +kernel, rfl⟩
theorem dd_Mod_asks_88 : Dc mi_Mod_asks 88 (.isub) 1 89 := ⟨by decide +kernel, rfl⟩
theorem dd_Mod_asks_89 : decode (mbc mi_Mod_asks) 89 = .ok (retI (mrt mi_Mod_asks), 1) := by decide +kernel
theorem dd_Mod_taken_0 : Dc mi_Mod_taken 0 (.iload_n 1) 1 1 := ⟨by decide +kernel, rfl⟩
theorem dd_Mod_taken_1 : Dc mi_Mod_taken 1 (.istore_n 2) 1 2 := ⟨by decide +kernel, rfl⟩
theorem dd_Mod_taken_2 : Dc mi_Mod_taken 2 (.aload_n 0) 1 3 := ⟨by decide +kernel, rfl⟩
theorem dd_Mod_taken_3 : Dc mi_Mod_taken 3 (.iload_n 2) 1 4 := ⟨by decide +kernel, rfl⟩
theorem dd_Mod_taken_4 : Dc mi_Mod_taken 4 (.invokevirtual 59) 3 7 := ⟨by decide +kernel, rfl⟩
theorem dd_Mod_taken_7 : Dc mi_Mod_taken 7 (.bipush (-5)) 2 9 := ⟨by decide +kernel, rfl⟩
theorem dd_Mod_taken_9 : Db mi_Mod_taken 9 (.if_icmp .ne 10) 10 12 19 := ⟨by decide +kernel, rfl, rfl⟩
theorem dd_Mod_taken_12 : Dc mi_Mod_taken 12 (.iconst 2) 1 13 := ⟨by decide +kernel, rfl⟩
theorem dd_Mod_taken_13 : Dc mi_Mod_taken 13 (.iload_n 2) 1 14 := ⟨by decide +kernel, rfl⟩
theorem dd_Mod_taken_14 : Dc mi_Mod_taken 14 (.imul) 1 15 := ⟨by decide +kernel, rfl⟩
theorem dd_Mod_taken_15 : Dc mi_Mod_taken 15 (.istore_n 2) 1 16 := ⟨by decide +kernel, rfl⟩
theorem dd_Mod_taken_16 : Db mi_Mod_taken 16 (.goto (-14)) (-14) 19 2 := ⟨by decide +kernel, rfl, rfl⟩
theorem dd_Mod_taken_19 : Dc mi_Mod_taken 19 (.aload_n 0) 1 20 := ⟨by decide +kernel, rfl⟩
theorem dd_Mod_taken_20 : Dc mi_Mod_taken 20 (.iload_n 2) 1 21 := ⟨by decide +kernel, rfl⟩
theorem dd_Mod_taken_21 : Dc mi_Mod_taken 21 (.invokevirtual 59) 3 24 := ⟨by decide +kernel, rfl⟩
theorem dd_Mod_taken_24 : Dc mi_Mod_taken 24 (.istore_n 3) 1 25 := ⟨by decide +kernel, rfl⟩
theorem dd_Mod_taken_25 : Dc mi_Mod_taken 25 (.iload_n 2) 1 26 := ⟨by decide +kernel, rfl⟩
theorem dd_Mod_taken_26 : Dc mi_Mod_taken 26 (.iload_n 1) 1 27 := ⟨by decide +kernel, rfl⟩
theorem dd_Mod_taken_27 : Db mi_Mod_taken 27 (.if_icmp .le 60) 60 30 87 := ⟨by decide +kernel, rfl, rfl⟩
theorem dd_Mod_taken_30 : Dc mi_Mod_taken 30 (.iload_n 2) 1 31 := ⟨by decide +kernel, rfl⟩
theorem dd_Mod_taken_31 : Dc mi_Mod_taken 31 (.iconst 2) 1 32 := ⟨by decide +kernel, rfl⟩
theorem dd_Mod_taken_32 : Dc mi_Mod_taken 32 (.idiv) 1 33 := ⟨by decide +kernel, rfl⟩
theorem dd_Mod_taken_33 : Dc mi_Mod_taken 33 (.istore_n 2) 1 34 := ⟨by decide +kernel, rfl⟩
theorem dd_Mod_taken_34 : Dc mi_Mod_taken 34 (.aload_n 0) 1 35 := ⟨by decide +kernel, rfl⟩
theorem dd_Mod_taken_35 : Dc mi_Mod_taken 35 (.getfield 7) 3 38 := ⟨by decide +kernel, rfl⟩
theorem dd_Mod_taken_38 : Dc mi_Mod_taken 38 (.sipush 128) 3 41 := ⟨by decide +kernel, rfl⟩
theorem dd_Mod_taken_41 : Dc mi_Mod_taken 41 (.iload_n 3) 1 42 := ⟨by decide +kernel, rfl⟩
theorem dd_Mod_taken_42 : Dc mi_Mod_taken 42 (.iadd) 1 43 := ⟨by decide +kernel, rfl⟩
theorem dd_Mod_taken_43 : Dc mi_Mod_taken 43 (.iload_n 2) 1 44 := ⟨by decide +kernel, rfl⟩
theorem dd_Mod_taken_44 : Dc mi_Mod_taken 44 (.iastore) 1 45 := ⟨by decide +kernel, rfl⟩
theorem dd_Mod_taken_45 : Dc mi_Mod_taken 45 (.aload_n 0) 1 46 := ⟨by decide +kernel, rfl⟩
theorem dd_Mod_taken_46 : Dc mi_Mod_taken 46 (.getfield 7) 3 49 := ⟨by decide +kernel, rfl⟩
theorem dd_Mod_taken_49 : Dc mi_Mod_taken 49 (.sipush 128) 3 52 := ⟨by decide +kernel, rfl⟩
theorem dd_Mod_taken_52 : Dc mi_Mod_taken 52 (.iload_n 3) 1 53 := ⟨by decide +kernel, rfl⟩
theorem dd_Mod_taken_53 : Dc mi_Mod_taken 53 (.iadd) 1 54 := ⟨by decide +kernel, rfl⟩
theorem dd_Mod_taken_54 : Dc mi_Mod_taken 54 (.iload_n 2) 1 55 := ⟨by decide +kernel, rfl⟩
theorem dd_Mod_taken_55 : Dc mi_Mod_taken 55 (.iadd) 1 56 := ⟨by decide +kernel, rfl⟩
theorem dd_Mod_taken_56 : Dc mi_Mod_taken 56 (.iload_n 2) 1 57 := ⟨by decide +kernel, rfl⟩
theorem dd_Mod_taken_57 : Dc mi_Mod_taken 57 (.iastore) 1 58 := ⟨by decide +kernel, rfl⟩
theorem dd_Mod_taken_58 : Dc mi_Mod_taken 58 (.aload_n 0) 1 59 := ⟨by decide +kernel, rfl⟩
theorem dd_Mod_taken_59 : Dc mi_Mod_taken 59 (.getfield 7) 3 62 := ⟨by decide +kernel, rfl⟩
theorem dd_Mod_taken_62 : Dc mi_Mod_taken 62 (.sipush 192) 3 65 := ⟨by decide +kernel, rfl⟩
theorem dd_Mod_taken_65 : Dc mi_Mod_taken 65 (.iload_n 3) 1 66 := ⟨by decide +kernel, rfl⟩
theorem dd_Mod_taken_66 : Dc mi_Mod_taken 66 (.iadd) 1 67 := ⟨by decide +kernel, rfl⟩
theorem dd_Mod_taken_67 : Dc mi_Mod_taken 67 (.iload_n 2) 1 68 := ⟨by decide +kernel, rfl⟩
theorem dd_Mod_taken_68 : Dc mi_Mod_taken 68 (.iadd) 1 69 := ⟨by decide +kernel, rfl⟩
theorem dd_Mod_taken_69 : Dc mi_Mod_taken 69 (.bipush (-5)) 2 71 := ⟨by decide +kernel, rfl⟩
theorem dd_Mod_taken_71 : Dc mi_Mod_taken 71 (.iastore) 1 72 := ⟨by decide +kernel, rfl⟩
theorem dd_Mod_taken_72 : Dc mi_Mod_taken 72 (.aload_n 0) 1 73 := ⟨by decide +kernel, rfl⟩
theorem dd_Mod_taken_73 : Dc mi_Mod_taken 73 (.getfield 7) 3 76 := ⟨by decide +kernel, rfl⟩
theorem dd_Mod_taken_76 : Dc mi_Mod_taken 76 (.sipush 468) 3 79 := ⟨by decide +kernel, rfl⟩
theorem dd_Mod_taken_79 : Dc mi_Mod_taken 79 (.dup2) 1 80 := ⟨by decide +kernel, rfl⟩
theorem dd_Mod_taken_80 : Dc mi_Mod_taken 80 (.iaload) 1 81 := ⟨by decide +kernel, rfl⟩
theorem dd_Mod_taken_81 : Dc mi_Mod_taken 81 (.iconst 1) 1 82 := ⟨by decide +kernel, rfl⟩
theorem dd_Mod_taken_82 : Dc mi_Mod_taken 82 (.iadd) 1 83 := ⟨by decide +kernel, rfl⟩
theorem dd_Mod_taken_83 : Dc mi_Mod_taken 83 (.iastore) 1 84 := ⟨by decide +kernel, rfl⟩
theorem dd_Mod_taken_84 : Db mi_Mod_taken 84 (.goto (-59)) (-59) 87 25 := ⟨by decide +kernel, rfl, rfl⟩
theorem dd_Mod_taken_87 : Dc mi_Mod_taken 87 (.iload_n 3) 1 88 := ⟨by decide +kernel, rfl⟩
theorem dd_Mod_taken_88 : decode (mbc mi_Mod_taken) 88 = .ok (retI (mrt mi_Mod_taken), 1) := by decide +kernel
theorem dd_Mod_giveBack_0 : Dc mi_Mod_giveBack 0 (.aload_n 0) 1 1 := ⟨by decide +kernel, rfl⟩
theorem dd_Mod_giveBack_1 : Dc mi_Mod_giveBack 1 (.iload_n 1) 1 2 := ⟨by decide +kernel, rfl⟩
theorem dd_Mod_giveBack_2 : Dc mi_Mod_giveBack 2 (.iload_n 2) 1 3 := ⟨by decide +kernel, rfl⟩
theorem dd_Mod_giveBack_3 : Dc mi_Mod_giveBack 3 (.invokevirtual 96) 3 6 := ⟨by decide +kernel, rfl⟩
theorem dd_Mod_giveBack_6 : Dc mi_Mod_giveBack 6 (.istore_n 3) 1 7 := ⟨by decide +kernel, rfl⟩
theorem dd_Mod_giveBack_7 : Dc mi_Mod_giveBack 7 (.iload_n 3) 1 8 := ⟨by decide +kernel, rfl⟩
theorem dd_Mod_giveBack_8 : Db mi_Mod_giveBack 8 (.ifCond .ge 5) 5 11 13 := ⟨by decide +kernel, rfl, rfl⟩
theorem dd_Mod_giveBack_11 : Dc mi_Mod_giveBack 11 (.iload_n 3) 1 12 := ⟨by decide +kernel, rfl⟩
theorem dd_Mod_giveBack_12 : decode (mbc mi_Mod_giveBack) 12 = .ok (retI (mrt mi_Mod_giveBack), 1) := by decide +kernel
theorem dd_Mod_giveBack_13 : Dc mi_Mod_giveBack 13 (.aload_n 0) 1 14 := ⟨by decide +kernel, rfl⟩
theorem dd_Mod_giveBack_14 : Dc mi_Mod_giveBack 14 (.invokevirtual 90) 3 17 := ⟨by decide +kernel, rfl⟩
theorem dd_Mod_giveBack_17 : Dc mi_Mod_giveBack 17 (.aload_n 0) 1 18 := ⟨by decide +kernel, rfl⟩
theorem dd_Mod_giveBack_18 : Dc mi_Mod_giveBack 18 (.aload_n 0) 1 19 := ⟨by decide +kernel, rfl⟩
theorem dd_Mod_giveBack_19 : Dc mi_Mod_giveBack 19 (.iload_n 2) 1 20 := ⟨by decide +kernel, rfl⟩
theorem dd_Mod_giveBack_20 : Dc mi_Mod_giveBack 20 (.invokevirtual 78) 3 23 := ⟨by decide +kernel, rfl⟩
theorem dd_Mod_giveBack_23 : Dc mi_Mod_giveBack 23 (.invokevirtual 84) 3 26 := ⟨by decide +kernel, rfl⟩
theorem dd_Mod_giveBack_26 : decode (mbc mi_Mod_giveBack) 26 = .ok (retI (mrt mi_Mod_giveBack), 1) := by decide +kernel
theorem dd_Mod_backFault_0 : Dc mi_Mod_backFault 0 (.aload_n 0) 1 1 := ⟨by decide +kernel, rfl⟩
theorem dd_Mod_backFault_1 : Dc mi_Mod_backFault 1 (.iload_n 2) 1 2 := ⟨by decide +kernel, rfl⟩
theorem dd_Mod_backFault_2 : Dc mi_Mod_backFault 2 (.invokevirtual 78) 3 5 := ⟨by decide +kernel, rfl⟩
theorem dd_Mod_backFault_5 : Dc mi_Mod_backFault 5 (.istore_n 3) 1 6 := ⟨by decide +kernel, rfl⟩
theorem dd_Mod_backFault_6 : Dc mi_Mod_backFault 6 (.iload_n 1) 1 7 := ⟨by decide +kernel, rfl⟩
theorem dd_Mod_backFault_7 : Dc mi_Mod_backFault 7 (.invokestatic 71) 3 10 := ⟨by decide +kernel, rfl⟩
theorem dd_Mod_backFault_10 : Db mi_Mod_backFault 10 (.ifCond .eq 9) 9 13 19 := ⟨by decide +kernel, rfl, rfl⟩
theorem dd_Mod_backFault_13 : Dc mi_Mod_backFault 13 (.iload_n 3) 1 14 := ⟨by decide +kernel, rfl⟩
theorem dd_Mod_backFault_14 : Dc mi_Mod_backFault 14 (.bipush (-5)) 2 16 := ⟨by decide +kernel, rfl⟩
theorem dd_Mod_backFault_16 : Db mi_Mod_backFault 16 (.if_icmp .ne 7) 7 19 23 := ⟨by decide +kernel, rfl, rfl⟩
theorem dd_Mod_backFault_19 : Dc mi_Mod_backFault 19 (.iconst (-1)) 1 20 := ⟨by decide +kernel, rfl⟩
theorem dd_Mod_backFault_20 : Db mi_Mod_backFault 20 (.goto 23) 23 23 43 := ⟨by decide +kernel, rfl, rfl⟩
theorem dd_Mod_backFault_23 : Dc mi_Mod_backFault 23 (.aload_n 0) 1 24 := ⟨by decide +kernel, rfl⟩
theorem dd_Mod_backFault_24 : Dc mi_Mod_backFault 24 (.getfield 7) 3 27 := ⟨by decide +kernel, rfl⟩
theorem dd_Mod_backFault_27 : Dc mi_Mod_backFault 27 (.sipush 256) 3 30 := ⟨by decide +kernel, rfl⟩
theorem dd_Mod_backFault_30 : Dc mi_Mod_backFault 30 (.iload_n 3) 1 31 := ⟨by decide +kernel, rfl⟩
theorem dd_Mod_backFault_31 : Dc mi_Mod_backFault 31 (.iadd) 1 32 := ⟨by decide +kernel, rfl⟩
theorem dd_Mod_backFault_32 : Dc mi_Mod_backFault 32 (.iaload) 1 33 := ⟨by decide +kernel, rfl⟩
theorem dd_Mod_backFault_33 : Dc mi_Mod_backFault 33 (.iload_n 1) 1 34 := ⟨by decide +kernel, rfl⟩
theorem dd_Mod_backFault_34 : Db mi_Mod_backFault 34 (.if_icmp .eq 8) 8 37 42 := ⟨by decide +kernel, rfl, rfl⟩
theorem dd_Mod_backFault_37 : Dc mi_Mod_backFault 37 (.bipush (-4)) 2 39 := ⟨by decide +kernel, rfl⟩
theorem dd_Mod_backFault_39 : Db mi_Mod_backFault 39 (.goto 4) 4 42 43 := ⟨by decide +kernel, rfl, rfl⟩
theorem dd_Mod_backFault_42 : Dc mi_Mod_backFault 42 (.iconst 0) 1 43 := ⟨by decide +kernel, rfl⟩
theorem dd_Mod_backFault_43 : decode (mbc mi_Mod_backFault) 43 = .ok (retI (mrt mi_Mod_backFault), 1) := by decide +kernel
theorem dd_Mod_beginOf_0 : Dc mi_Mod_beginOf 0 (.iconst 0) 1 1 := ⟨by decide +kernel, rfl⟩
theorem dd_Mod_beginOf_1 : Dc mi_Mod_beginOf 1 (.istore_n 2) 1 2 := ⟨by decide +kernel, rfl⟩
theorem dd_Mod_beginOf_2 : Dc mi_Mod_beginOf 2 (.iload_n 2) 1 3 := ⟨by decide +kernel, rfl⟩
theorem dd_Mod_beginOf_3 : Dc mi_Mod_beginOf 3 (.bipush 64) 2 5 := ⟨by decide +kernel, rfl⟩
theorem dd_Mod_beginOf_5 : Db mi_Mod_beginOf 5 (.if_icmp .ge 33) 33 8 38 := ⟨by decide +kernel, rfl, rfl⟩
theorem dd_Mod_beginOf_8 : Dc mi_Mod_beginOf 8 (.aload_n 0) 1 9 := ⟨by decide +kernel, rfl⟩
theorem dd_Mod_beginOf_9 : Dc mi_Mod_beginOf 9 (.iload_n 2) 1 10 := ⟨by decide +kernel, rfl⟩
theorem dd_Mod_beginOf_10 : Dc mi_Mod_beginOf 10 (.invokevirtual 42) 3 13 := ⟨by decide +kernel, rfl⟩
theorem dd_Mod_beginOf_13 : Db mi_Mod_beginOf 13 (.ifCond .eq 19) 19 16 32 := ⟨by decide +kernel, rfl, rfl⟩
theorem dd_Mod_beginOf_16 : Dc mi_Mod_beginOf 16 (.aload_n 0) 1 17 := ⟨by decide +kernel, rfl⟩
theorem dd_Mod_beginOf_17 : Dc mi_Mod_beginOf 17 (.getfield 7) 3 20 := ⟨by decide +kernel, rfl⟩
theorem dd_Mod_beginOf_20 : Dc mi_Mod_beginOf 20 (.sipush 192) 3 23 := ⟨by decide +kernel, rfl⟩
theorem dd_Mod_beginOf_23 : Dc mi_Mod_beginOf 23 (.iload_n 2) 1 24 := ⟨by decide +kernel, rfl⟩
theorem dd_Mod_beginOf_24 : Dc mi_Mod_beginOf 24 (.iadd) 1 25 := ⟨by decide +kernel, rfl⟩
theorem dd_Mod_beginOf_25 : Dc mi_Mod_beginOf 25 (.iaload) 1 26 := ⟨by decide +kernel, rfl⟩
theorem dd_Mod_beginOf_26 : Dc mi_Mod_beginOf 26 (.iload_n 1) 1 27 := ⟨by decide +kernel, rfl⟩
theorem dd_Mod_beginOf_27 : Db mi_Mod_beginOf 27 (.if_icmp .ne 5) 5 30 32 := ⟨by decide +kernel, rfl, rfl⟩
theorem dd_Mod_beginOf_30 : Dc mi_Mod_beginOf 30 (.iload_n 2) 1 31 := ⟨by decide +kernel, rfl⟩
theorem dd_Mod_beginOf_31 : decode (mbc mi_Mod_beginOf) 31 = .ok (retI (mrt mi_Mod_beginOf), 1) := by decide +kernel
theorem dd_Mod_beginOf_32 : Dc mi_Mod_beginOf 32 (.iinc 2 1) 3 35 := ⟨by decide +kernel, rfl⟩
theorem dd_Mod_beginOf_35 : Db mi_Mod_beginOf 35 (.goto (-33)) (-33) 38 2 := ⟨by decide +kernel, rfl, rfl⟩
theorem dd_Mod_beginOf_38 : Dc mi_Mod_beginOf 38 (.bipush (-5)) 2 40 := ⟨by decide +kernel, rfl⟩
theorem dd_Mod_beginOf_40 : decode (mbc mi_Mod_beginOf) 40 = .ok (retI (mrt mi_Mod_beginOf), 1) := by decide +kernel
theorem dd_Mod_frees_0 : Dc mi_Mod_frees 0 (.aload_n 0) 1 1 := ⟨by decide +kernel, rfl⟩
theorem dd_Mod_frees_1 : Dc mi_Mod_frees 1 (.iload_n 1) 1 2 := ⟨by decide +kernel, rfl⟩
theorem dd_Mod_frees_2 : Dc mi_Mod_frees 2 (.invokevirtual 65) 3 5 := ⟨by decide +kernel, rfl⟩
theorem dd_Mod_frees_5 : Dc mi_Mod_frees 5 (.istore_n 2) 1 6 := ⟨by decide +kernel, rfl⟩
theorem dd_Mod_frees_6 : Dc mi_Mod_frees 6 (.aload_n 0) 1 7 := ⟨by decide +kernel, rfl⟩
theorem dd_Mod_frees_7 : Dc mi_Mod_frees 7 (.getfield 7) 3 10 := ⟨by decide +kernel, rfl⟩
theorem dd_Mod_frees_10 : Dc mi_Mod_frees 10 (.sipush 470) 3 13 := ⟨by decide +kernel, rfl⟩
theorem dd_Mod_frees_13 : Dc mi_Mod_frees 13 (.dup2) 1 14 := ⟨by decide +kernel, rfl⟩
theorem dd_Mod_frees_14 : Dc mi_Mod_frees 14 (.iaload) 1 15 := ⟨by decide +kernel, rfl⟩
theorem dd_Mod_frees_15 : Dc mi_Mod_frees 15 (.iload_n 2) 1 16 := ⟨by decide +kernel, rfl⟩
theorem dd_Mod_frees_16 : Dc mi_Mod_frees 16 (.iadd) 1 17 := ⟨by decide +kernel, rfl⟩
theorem dd_Mod_frees_17 : Dc mi_Mod_frees 17 (.iastore) 1 18 := ⟨by decide +kernel, rfl⟩
theorem dd_Mod_frees_18 : Dc mi_Mod_frees 18 (.iload_n 1) 1 19 := ⟨by decide +kernel, rfl⟩
theorem dd_Mod_frees_19 : Dc mi_Mod_frees 19 (.istore_n 3) 1 20 := ⟨by decide +kernel, rfl⟩
theorem dd_Mod_frees_20 : Dc mi_Mod_frees 20 (.iload_n 3) 1 21 := ⟨by decide +kernel, rfl⟩
theorem dd_Mod_frees_21 : Dc mi_Mod_frees 21 (.iload_n 1) 1 22 := ⟨by decide +kernel, rfl⟩
theorem dd_Mod_frees_22 : Dc mi_Mod_frees 22 (.aload_n 0) 1 23 := ⟨by decide +kernel, rfl⟩
theorem dd_Mod_frees_23 : Dc mi_Mod_frees 23 (.getfield 7) 3 26 := ⟨by decide +kernel, rfl⟩
theorem dd_Mod_frees_26 : Dc mi_Mod_frees 26 (.sipush 128) 3 29 := ⟨by decide +kernel, rfl⟩
theorem dd_Mod_frees_29 : Dc mi_Mod_frees 29 (.iload_n 1) 1 30 := ⟨by decide +kernel, rfl⟩
theorem dd_Mod_frees_30 : Dc mi_Mod_frees 30 (.iadd) 1 31 := ⟨by decide +kernel, rfl⟩
theorem dd_Mod_frees_31 : Dc mi_Mod_frees 31 (.iaload) 1 32 := ⟨by decide +kernel, rfl⟩
theorem dd_Mod_frees_32 : Dc mi_Mod_frees 32 (.iadd) 1 33 := ⟨by decide +kernel, rfl⟩
theorem dd_Mod_frees_33 : Db mi_Mod_frees 33 (.if_icmp .ge 28) 28 36 61 := ⟨by decide +kernel, rfl, rfl⟩
theorem dd_Mod_frees_36 : Dc mi_Mod_frees 36 (.aload_n 0) 1 37 := ⟨by decide +kernel, rfl⟩
theorem dd_Mod_frees_37 : Dc mi_Mod_frees 37 (.getfield 7) 3 40 := ⟨by decide +kernel, rfl⟩
theorem dd_Mod_frees_40 : Dc mi_Mod_frees 40 (.iconst 0) 1 41 := ⟨by decide +kernel, rfl⟩
theorem dd_Mod_frees_41 : Dc mi_Mod_frees 41 (.iload_n 3) 1 42 := ⟨by decide +kernel, rfl⟩
theorem dd_Mod_frees_42 : Dc mi_Mod_frees 42 (.iadd) 1 43 := ⟨by decide +kernel, rfl⟩
theorem dd_Mod_frees_43 : Dc mi_Mod_frees 43 (.iconst 0) 1 44 := ⟨by decide +kernel, rfl⟩
theorem dd_Mod_frees_44 : Dc mi_Mod_frees 44 (.iastore) 1 45 := ⟨by decide +kernel, rfl⟩
theorem dd_Mod_frees_45 : Dc mi_Mod_frees 45 (.aload_n 0) 1 46 := ⟨by decide +kernel, rfl⟩
theorem dd_Mod_frees_46 : Dc mi_Mod_frees 46 (.getfield 7) 3 49 := ⟨by decide +kernel, rfl⟩
theorem dd_Mod_frees_49 : Dc mi_Mod_frees 49 (.bipush 64) 2 51 := ⟨by decide +kernel, rfl⟩
theorem dd_Mod_frees_51 : Dc mi_Mod_frees 51 (.iload_n 3) 1 52 := ⟨by decide +kernel, rfl⟩
theorem dd_Mod_frees_52 : Dc mi_Mod_frees 52 (.iadd) 1 53 := ⟨by decide +kernel, rfl⟩
theorem dd_Mod_frees_53 : Dc mi_Mod_frees 53 (.iconst 0) 1 54 := ⟨by decide +kernel, rfl⟩
theorem dd_Mod_frees_54 : Dc mi_Mod_frees 54 (.iastore) 1 55 := ⟨by decide +kernel, rfl⟩
theorem dd_Mod_frees_55 : Dc mi_Mod_frees 55 (.iinc 3 1) 3 58 := ⟨by decide +kernel, rfl⟩
theorem dd_Mod_frees_58 : Db mi_Mod_frees 58 (.goto (-38)) (-38) 61 20 := ⟨by decide +kernel, rfl, rfl⟩
theorem dd_Mod_frees_61 : Dc mi_Mod_frees 61 (.aload_n 0) 1 62 := ⟨by decide +kernel, rfl⟩
theorem dd_Mod_frees_62 : Dc mi_Mod_frees 62 (.getfield 7) 3 65 := ⟨by decide +kernel, rfl⟩
theorem dd_Mod_frees_65 : Dc mi_Mod_frees 65 (.sipush 192) 3 68 := ⟨by decide +kernel, rfl⟩
theorem dd_Mod_frees_68 : Dc mi_Mod_frees 68 (.iload_n 1) 1 69 := ⟨by decide +kernel, rfl⟩
theorem dd_Mod_frees_69 : Dc mi_Mod_frees 69 (.iadd) 1 70 := ⟨by decide +kernel, rfl⟩
theorem dd_Mod_frees_70 : Dc mi_Mod_frees 70 (.bipush (-5)) 2 72 := ⟨by decide +kernel, rfl⟩
theorem dd_Mod_frees_72 : Dc mi_Mod_frees 72 (.iastore) 1 73 := ⟨by decide +kernel, rfl⟩
theorem dd_Mod_frees_73 : Dc mi_Mod_frees 73 (.iload_n 1) 1 74 := ⟨by decide +kernel, rfl⟩
theorem dd_Mod_frees_74 : Dc mi_Mod_frees 74 (.istore_n 3) 1 75 := ⟨by decide +kernel, rfl⟩
theorem dd_Mod_frees_75 : Dc mi_Mod_frees 75 (.aload_n 0) 1 76 := ⟨by decide +kernel, rfl⟩
theorem dd_Mod_frees_76 : Dc mi_Mod_frees 76 (.getfield 7) 3 79 := ⟨by decide +kernel, rfl⟩
theorem dd_Mod_frees_79 : Dc mi_Mod_frees 79 (.sipush 128) 3 82 := ⟨by decide +kernel, rfl⟩
theorem dd_Mod_frees_82 : Dc mi_Mod_frees 82 (.iload_n 3) 1 83 := ⟨by decide +kernel, rfl⟩
theorem dd_Mod_frees_83 : Dc mi_Mod_frees 83 (.iadd) 1 84 := ⟨by decide +kernel, rfl⟩
theorem dd_Mod_frees_84 : Dc mi_Mod_frees 84 (.iaload) 1 85 := ⟨by decide +kernel, rfl⟩
theorem dd_Mod_frees_85 : Dc mi_Mod_frees 85 (.bipush 16) 2 87 := ⟨by decide +kernel, rfl⟩
theorem dd_Mod_frees_87 : Db mi_Mod_frees 87 (.if_icmp .ge 7) 7 90 94 := ⟨by decide +kernel, rfl, rfl⟩
theorem dd_Mod_frees_90 : Dc mi_Mod_frees 90 (.iconst 1) 1 91 := ⟨by decide +kernel, rfl⟩
theorem dd_Mod_frees_91 : Db mi_Mod_frees 91 (.goto 4) 4 94 95 := ⟨by decide +kernel, rfl, rfl⟩
theorem dd_Mod_frees_94 : Dc mi_Mod_frees 94 (.iconst 0) 1 95 := ⟨by decide +kernel, rfl⟩
theorem dd_Mod_frees_95 : Dc mi_Mod_frees 95 (.istore 4) 2 97 := ⟨by decide +kernel, rfl⟩
theorem dd_Mod_frees_97 : Dc mi_Mod_frees 97 (.iload 4) 2 99 := ⟨by decide +kernel, rfl⟩
theorem dd_Mod_frees_99 : Db mi_Mod_frees 99 (.ifCond .eq 155) 155 102 254 := ⟨by decide +kernel, rfl, rfl⟩
theorem dd_Mod_frees_102 : Dc mi_Mod_frees 102 (.aload_n 0) 1 103 := ⟨by decide +kernel, rfl⟩
theorem dd_Mod_frees_103 : Dc mi_Mod_frees 103 (.getfield 7) 3 106 := ⟨by decide +kernel, rfl⟩
theorem dd_Mod_frees_106 : Dc mi_Mod_frees 106 (.sipush 128) 3 109 := ⟨by decide +kernel, rfl⟩
theorem dd_Mod_frees_109 : Dc mi_Mod_frees 109 (.iload_n 3) 1 110 := ⟨by decide +kernel, rfl⟩
theorem dd_Mod_frees_110 : Dc mi_Mod_frees 110 (.iadd) 1 111 := ⟨by decide +kernel, rfl⟩
theorem dd_Mod_frees_111 : Dc mi_Mod_frees 111 (.iaload) 1 112 := ⟨by decide +kernel, rfl⟩
theorem dd_Mod_frees_112 : Dc mi_Mod_frees 112 (.istore 5) 2 114 := ⟨by decide +kernel, rfl⟩
theorem dd_Mod_frees_114 : Dc mi_Mod_frees 114 (.iload_n 3) 1 115 := ⟨by decide +kernel, rfl⟩
theorem dd_Mod_frees_115 : Dc mi_Mod_frees 115 (.iload_n 3) 1 116 := ⟨by decide +kernel, rfl⟩
theorem dd_Mod_frees_116 : Dc mi_Mod_frees 116 (.iconst 2) 1 117 := ⟨by decide +kernel, rfl⟩
theorem dd_Mod_frees_117 : Dc mi_Mod_frees 117 (.iload 5) 2 119 := ⟨by decide +kernel, rfl⟩
theorem dd_Mod_frees_119 : Dc mi_Mod_frees 119 (.imul) 1 120 := ⟨by decide +kernel, rfl⟩
theorem dd_Mod_frees_120 : Dc mi_Mod_frees 120 (.irem) 1 121 := ⟨by decide +kernel, rfl⟩
theorem dd_Mod_frees_121 : Dc mi_Mod_frees 121 (.isub) 1 122 := ⟨by decide +kernel, rfl⟩
theorem dd_Mod_frees_122 : Dc mi_Mod_frees 122 (.istore 6) 2 124 := ⟨by decide +kernel, rfl⟩
theorem dd_Mod_frees_124 : Dc mi_Mod_frees 124 (.iload 6) 2 126 := ⟨by decide +kernel, rfl⟩
theorem dd_Mod_frees_126 : Dc mi_Mod_frees 126 (.iload 5) 2 128 := ⟨by decide +kernel, rfl⟩
theorem dd_Mod_frees_128 : Dc mi_Mod_frees 128 (.iadd) 1 129 := ⟨by decide +kernel, rfl⟩
theorem dd_Mod_frees_129 : Dc mi_Mod_frees 129 (.istore 7) 2 131 := ⟨by decide +kernel, rfl⟩
theorem dd_Mod_frees_131 : Dc mi_Mod_frees 131 (.aload_n 0) 1 132 := ⟨by decide +kernel, rfl⟩
theorem dd_Mod_frees_132 : Dc mi_Mod_frees 132 (.iload 6) 2 134 := ⟨by decide +kernel, rfl⟩
theorem dd_Mod_frees_134 : Dc mi_Mod_frees 134 (.invokevirtual 50) 3 137 := ⟨by decide +kernel, rfl⟩
theorem dd_Mod_frees_137 : Db mi_Mod_frees 137 (.ifCond .eq 48) 48 140 185 := ⟨by decide +kernel, rfl, rfl⟩
theorem dd_Mod_frees_140 : Dc mi_Mod_frees 140 (.aload_n 0) 1 141 := ⟨by decide +kernel, rfl⟩
theorem dd_Mod_frees_141 : Dc mi_Mod_frees 141 (.iload 7) 2 143 := ⟨by decide +kernel, rfl⟩
theorem dd_Mod_frees_143 : Dc mi_Mod_frees 143 (.invokevirtual 50) 3 146 := ⟨by decide +kernel, rfl⟩
theorem dd_Mod_frees_146 : Db mi_Mod_frees 146 (.ifCond .eq 39) 39 149 185 := ⟨by decide +kernel, rfl, rfl⟩
theorem dd_Mod_frees_149 : Dc mi_Mod_frees 149 (.aload_n 0) 1 150 := ⟨by decide +kernel, rfl⟩
theorem dd_Mod_frees_150 : Dc mi_Mod_frees 150 (.getfield 7) 3 153 := ⟨by decide +kernel, rfl⟩
theorem dd_Mod_frees_153 : Dc mi_Mod_frees 153 (.sipush 128) 3 156 := ⟨by decide +kernel, rfl⟩
theorem dd_Mod_frees_156 : Dc mi_Mod_frees 156 (.iload 6) 2 158 := ⟨by decide +kernel, rfl⟩
theorem dd_Mod_frees_158 : Dc mi_Mod_frees 158 (.iadd) 1 159 := ⟨by decide +kernel, rfl⟩
theorem dd_Mod_frees_159 : Dc mi_Mod_frees 159 (.iaload) 1 160 := ⟨by decide +kernel, rfl⟩
theorem dd_Mod_frees_160 : Dc mi_Mod_frees 160 (.iload 5) 2 162 := ⟨by decide +kernel, rfl⟩
theorem dd_Mod_frees_162 : Db mi_Mod_frees 162 (.if_icmp .ne 23) 23 165 185 := ⟨by decide +kernel, rfl, rfl⟩
theorem dd_Mod_frees_165 : Dc mi_Mod_frees 165 (.aload_n 0) 1 166 := ⟨by decide +kernel, rfl⟩
theorem dd_Mod_frees_166 : Dc mi_Mod_frees 166 (.getfield 7) 3 169 := ⟨by decide +kernel, rfl⟩
theorem dd_Mod_frees_169 : Dc mi_Mod_frees 169 (.sipush 128) 3 172 := ⟨by decide +kernel, rfl⟩
theorem dd_Mod_frees_172 : Dc mi_Mod_frees 172 (.iload 7) 2 174 := ⟨by decide +kernel, rfl⟩
theorem dd_Mod_frees_174 : Dc mi_Mod_frees 174 (.iadd) 1 175 := ⟨by decide +kernel, rfl⟩
theorem dd_Mod_frees_175 : Dc mi_Mod_frees 175 (.iaload) 1 176 := ⟨by decide +kernel, rfl⟩
theorem dd_Mod_frees_176 : Dc mi_Mod_frees 176 (.iload 5) 2 178 := ⟨by decide +kernel, rfl⟩
theorem dd_Mod_frees_178 : Db mi_Mod_frees 178 (.if_icmp .ne 7) 7 181 185 := ⟨by decide +kernel, rfl, rfl⟩
theorem dd_Mod_frees_181 : Dc mi_Mod_frees 181 (.iconst 1) 1 182 := ⟨by decide +kernel, rfl⟩
theorem dd_Mod_frees_182 : Db mi_Mod_frees 182 (.goto 4) 4 185 186 := ⟨by decide +kernel, rfl, rfl⟩
theorem dd_Mod_frees_185 : Dc mi_Mod_frees 185 (.iconst 0) 1 186 := ⟨by decide +kernel, rfl⟩
theorem dd_Mod_frees_186 : Dc mi_Mod_frees 186 (.istore 4) 2 188 := ⟨by decide +kernel, rfl⟩
theorem dd_Mod_frees_188 : Dc mi_Mod_frees 188 (.iload 4) 2 190 := ⟨by decide +kernel, rfl⟩
theorem dd_Mod_frees_190 : Db mi_Mod_frees 190 (.ifCond .eq 61) 61 193 251 := ⟨by decide +kernel, rfl, rfl⟩
theorem dd_Mod_frees_193 : Dc mi_Mod_frees 193 (.aload_n 0) 1 194 := ⟨by decide +kernel, rfl⟩
theorem dd_Mod_frees_194 : Dc mi_Mod_frees 194 (.getfield 7) 3 197 := ⟨by decide +kernel, rfl⟩
theorem dd_Mod_frees_197 : Dc mi_Mod_frees 197 (.sipush 128) 3 200 := ⟨by decide +kernel, rfl⟩
theorem dd_Mod_frees_200 : Dc mi_Mod_frees 200 (.iload 6) 2 202 := ⟨by decide +kernel, rfl⟩
theorem dd_Mod_frees_202 : Dc mi_Mod_frees 202 (.iadd) 1 203 := ⟨by decide +kernel, rfl⟩
theorem dd_Mod_frees_203 : Dc mi_Mod_frees 203 (.iconst 2) 1 204 := ⟨by decide +kernel, rfl⟩
theorem dd_Mod_frees_204 : Dc mi_Mod_frees 204 (.iload 5) 2 206 := ⟨by decide +kernel, rfl⟩
theorem dd_Mod_frees_206 : Dc mi_Mod_frees 206 (.imul) 1 207 := ⟨by decide +kernel, rfl⟩
theorem dd_Mod_frees_207 : Dc mi_Mod_frees 207 (.iastore) 1 208 := ⟨by decide +kernel, rfl⟩
theorem dd_Mod_frees_208 : Dc mi_Mod_frees 208 (.aload_n 0) 1 209 := ⟨by decide +kernel, rfl⟩
theorem dd_Mod_frees_209 : Dc mi_Mod_frees 209 (.getfield 7) 3 212 := ⟨by decide +kernel, rfl⟩
theorem dd_Mod_frees_212 : Dc mi_Mod_frees 212 (.sipush 128) 3 215 := ⟨by decide +kernel, rfl⟩
theorem dd_Mod_frees_215 : Dc mi_Mod_frees 215 (.iload 7) 2 217 := ⟨by decide +kernel, rfl⟩
theorem dd_Mod_frees_217 : Dc mi_Mod_frees 217 (.iadd) 1 218 := ⟨by decide +kernel, rfl⟩
theorem dd_Mod_frees_218 : Dc mi_Mod_frees 218 (.iconst 0) 1 219 := ⟨by decide +kernel, rfl⟩
theorem dd_Mod_frees_219 : Dc mi_Mod_frees 219 (.iastore) 1 220 := ⟨by decide +kernel, rfl⟩
theorem dd_Mod_frees_220 : Dc mi_Mod_frees 220 (.aload_n 0) 1 221 := ⟨by decide +kernel, rfl⟩
theorem dd_Mod_frees_221 : Dc mi_Mod_frees 221 (.getfield 7) 3 224 := ⟨by decide +kernel, rfl⟩
theorem dd_Mod_frees_224 : Dc mi_Mod_frees 224 (.sipush 469) 3 227 := ⟨by decide +kernel, rfl⟩
theorem dd_Mod_frees_227 : Dc mi_Mod_frees 227 (.dup2) 1 228 := ⟨by decide +kernel, rfl⟩
theorem dd_Mod_frees_228 : Dc mi_Mod_frees 228 (.iaload) 1 229 := ⟨by decide +kernel, rfl⟩
theorem dd_Mod_frees_229 : Dc mi_Mod_frees 229 (.iconst 1) 1 230 := ⟨by decide +kernel, rfl⟩
theorem dd_Mod_frees_230 : Dc mi_Mod_frees 230 (.iadd) 1 231 := ⟨by decide +kernel, rfl⟩
theorem dd_Mod_frees_231 : Dc mi_Mod_frees 231 (.iastore) 1 232 := ⟨by decide +kernel, rfl⟩
theorem dd_Mod_frees_232 : Dc mi_Mod_frees 232 (.iload 6) 2 234 := ⟨by decide +kernel, rfl⟩
theorem dd_Mod_frees_234 : Dc mi_Mod_frees 234 (.istore_n 3) 1 235 := ⟨by decide +kernel, rfl⟩
theorem dd_Mod_frees_235 : Dc mi_Mod_frees 235 (.iconst 2) 1 236 := ⟨by decide +kernel, rfl⟩
theorem dd_Mod_frees_236 : Dc mi_Mod_frees 236 (.iload 5) 2 238 := ⟨by decide +kernel, rfl⟩
theorem dd_Mod_frees_238 : Dc mi_Mod_frees 238 (.imul) 1 239 := ⟨by decide +kernel, rfl⟩
theorem dd_Mod_frees_239 : Dc mi_Mod_frees 239 (.bipush 16) 2 241 := ⟨by decide +kernel, rfl⟩
theorem dd_Mod_frees_241 : Db mi_Mod_frees 241 (.if_icmp .ge 7) 7 244 248 := ⟨by decide +kernel, rfl, rfl⟩
theorem dd_Mod_frees_244 : Dc mi_Mod_frees 244 (.iconst 1) 1 245 := ⟨by decide +kernel, rfl⟩
theorem dd_Mod_frees_245 : Db mi_Mod_frees 245 (.goto 4) 4 248 249 := ⟨by decide +kernel, rfl, rfl⟩
theorem dd_Mod_frees_248 : Dc mi_Mod_frees 248 (.iconst 0) 1 249 := ⟨by decide +kernel, rfl⟩
theorem dd_Mod_frees_249 : Dc mi_Mod_frees 249 (.istore 4) 2 251 := ⟨by decide +kernel, rfl⟩
theorem dd_Mod_frees_251 : Db mi_Mod_frees 251 (.goto (-154)) (-154) 254 97 := ⟨by decide +kernel, rfl, rfl⟩
theorem dd_Mod_frees_254 : Dc mi_Mod_frees 254 (.iload_n 2) 1 255 := ⟨by decide +kernel, rfl⟩
theorem dd_Mod_frees_255 : decode (mbc mi_Mod_frees) 255 = .ok (retI (mrt mi_Mod_frees), 1) := by decide +kernel
theorem dd_Mod_broken_0 : Dc mi_Mod_broken 0 (.aload_n 0) 1 1 := ⟨by decide +kernel, rfl⟩
theorem dd_Mod_broken_1 : Dc mi_Mod_broken 1 (.getfield 7) 3 4 := ⟨by decide +kernel, rfl⟩
theorem dd_Mod_broken_4 : Dc mi_Mod_broken 4 (.bipush 64) 2 6 := ⟨by decide +kernel, rfl⟩
theorem dd_Mod_broken_6 : Dc mi_Mod_broken 6 (.iload_n 1) 1 7 := ⟨by decide +kernel, rfl⟩
theorem dd_Mod_broken_7 : Dc mi_Mod_broken 7 (.iadd) 1 8 := ⟨by decide +kernel, rfl⟩
theorem dd_Mod_broken_8 : Dc mi_Mod_broken 8 (.iaload) 1 9 := ⟨by decide +kernel, rfl⟩
theorem dd_Mod_broken_9 : Dc mi_Mod_broken 9 (.aload_n 0) 1 10 := ⟨by decide +kernel, rfl⟩
theorem dd_Mod_broken_10 : Dc mi_Mod_broken 10 (.getfield 7) 3 13 := ⟨by decide +kernel, rfl⟩
theorem dd_Mod_broken_13 : Dc mi_Mod_broken 13 (.bipush 64) 2 15 := ⟨by decide +kernel, rfl⟩
theorem dd_Mod_broken_15 : Dc mi_Mod_broken 15 (.iload_n 1) 1 16 := ⟨by decide +kernel, rfl⟩
theorem dd_Mod_broken_16 : Dc mi_Mod_broken 16 (.iadd) 1 17 := ⟨by decide +kernel, rfl⟩
theorem dd_Mod_broken_17 : Dc mi_Mod_broken 17 (.aload_n 0) 1 18 := ⟨by decide +kernel, rfl⟩
theorem dd_Mod_broken_18 : Dc mi_Mod_broken 18 (.getfield 7) 3 21 := ⟨by decide +kernel, rfl⟩
theorem dd_Mod_broken_21 : Dc mi_Mod_broken 21 (.sipush 320) 3 24 := ⟨by decide +kernel, rfl⟩
theorem dd_Mod_broken_24 : Dc mi_Mod_broken 24 (.iload_n 1) 1 25 := ⟨by decide +kernel, rfl⟩
theorem dd_Mod_broken_25 : Dc mi_Mod_broken 25 (.iadd) 1 26 := ⟨by decide +kernel, rfl⟩
theorem dd_Mod_broken_26 : Dc mi_Mod_broken 26 (.iaload) 1 27 := ⟨by decide +kernel, rfl⟩
theorem dd_Mod_broken_27 : Dc mi_Mod_broken 27 (.iadd) 1 28 := ⟨by decide +kernel, rfl⟩
theorem dd_Mod_broken_28 : Dc mi_Mod_broken 28 (.iconst 1) 1 29 := ⟨by decide +kernel, rfl⟩
theorem dd_Mod_broken_29 : Dc mi_Mod_broken 29 (.iadd) 1 30 := ⟨by decide +kernel, rfl⟩
theorem dd_Mod_broken_30 : Dc mi_Mod_broken 30 (.iaload) 1 31 := ⟨by decide +kernel, rfl⟩
theorem dd_Mod_broken_31 : Dc mi_Mod_broken 31 (.iadd) 1 32 := ⟨by decide +kernel, rfl⟩
theorem dd_Mod_broken_32 : decode (mbc mi_Mod_broken) 32 = .ok (retI (mrt mi_Mod_broken), 1) := by decide +kernel
theorem dd_Mod_write_0 : Dc mi_Mod_write 0 (.aload_n 0) 1 1 := ⟨by decide +kernel, rfl⟩
theorem dd_Mod_write_1 : Dc mi_Mod_write 1 (.iload_n 2) 1 2 := ⟨by decide +kernel, rfl⟩
theorem dd_Mod_write_2 : Dc mi_Mod_write 2 (.invokevirtual 78) 3 5 := ⟨by decide +kernel, rfl⟩
theorem dd_Mod_write_5 : Dc mi_Mod_write 5 (.istore 5) 2 7 := ⟨by decide +kernel, rfl⟩
theorem dd_Mod_write_7 : Dc mi_Mod_write 7 (.iload_n 1) 1 8 := ⟨by decide +kernel, rfl⟩
theorem dd_Mod_write_8 : Dc mi_Mod_write 8 (.invokestatic 71) 3 11 := ⟨by decide +kernel, rfl⟩
theorem dd_Mod_write_11 : Db mi_Mod_write 11 (.ifCond .eq 10) 10 14 21 := ⟨by decide +kernel, rfl, rfl⟩
theorem dd_Mod_write_14 : Dc mi_Mod_write 14 (.iload 5) 2 16 := ⟨by decide +kernel, rfl⟩
theorem dd_Mod_write_16 : Dc mi_Mod_write 16 (.bipush (-5)) 2 18 := ⟨by decide +kernel, rfl⟩
theorem dd_Mod_write_18 : Db mi_Mod_write 18 (.if_icmp .ne 5) 5 21 23 := ⟨by decide +kernel, rfl, rfl⟩
theorem dd_Mod_write_21 : Dc mi_Mod_write 21 (.iconst (-1)) 1 22 := ⟨by decide +kernel, rfl⟩
theorem dd_Mod_write_22 : decode (mbc mi_Mod_write) 22 = .ok (retI (mrt mi_Mod_write), 1) := by decide +kernel
theorem dd_Mod_write_23 : Dc mi_Mod_write 23 (.iload_n 3) 1 24 := ⟨by decide +kernel, rfl⟩
theorem dd_Mod_write_24 : Dc mi_Mod_write 24 (.bipush (-64)) 2 26 := ⟨by decide +kernel, rfl⟩
theorem dd_Mod_write_26 : Dc mi_Mod_write 26 (.bipush 64) 2 28 := ⟨by decide +kernel, rfl⟩
theorem dd_Mod_write_28 : Dc mi_Mod_write 28 (.invokestatic 35) 3 31 := ⟨by decide +kernel, rfl⟩
theorem dd_Mod_write_31 : Db mi_Mod_write 31 (.ifCond .eq 14) 14 34 45 := ⟨by decide +kernel, rfl, rfl⟩
theorem dd_Mod_write_34 : Dc mi_Mod_write 34 (.iload 4) 2 36 := ⟨by decide +kernel, rfl⟩
theorem dd_Mod_write_36 : Dc mi_Mod_write 36 (.iconst 1) 1 37 := ⟨by decide +kernel, rfl⟩
theorem dd_Mod_write_37 : Dc mi_Mod_write 37 (.bipush 99) 2 39 := ⟨by decide +kernel, rfl⟩
theorem dd_Mod_write_39 : Dc mi_Mod_write 39 (.invokestatic 35) 3 42 := ⟨by decide +kernel, rfl⟩
theorem dd_Mod_write_42 : Db mi_Mod_write 42 (.ifCond .ne 6) 6 45 48 := ⟨by decide +kernel, rfl, rfl⟩
theorem dd_Mod_write_45 : Dc mi_Mod_write 45 (.bipush (-2)) 2 47 := ⟨by decide +kernel, rfl⟩
theorem dd_Mod_write_47 : decode (mbc mi_Mod_write) 47 = .ok (retI (mrt mi_Mod_write), 1) := by decide +kernel
theorem dd_Mod_write_48 : Dc mi_Mod_write 48 (.iload 5) 2 50 := ⟨by decide +kernel, rfl⟩
theorem dd_Mod_write_50 : Dc mi_Mod_write 50 (.iconst 1) 1 51 := ⟨by decide +kernel, rfl⟩
theorem dd_Mod_write_51 : Dc mi_Mod_write 51 (.iadd) 1 52 := ⟨by decide +kernel, rfl⟩
theorem dd_Mod_write_52 : Dc mi_Mod_write 52 (.iload_n 3) 1 53 := ⟨by decide +kernel, rfl⟩
theorem dd_Mod_write_53 : Dc mi_Mod_write 53 (.iadd) 1 54 := ⟨by decide +kernel, rfl⟩
theorem dd_Mod_write_54 : Dc mi_Mod_write 54 (.istore 6) 2 56 := ⟨by decide +kernel, rfl⟩
theorem dd_Mod_write_56 : Dc mi_Mod_write 56 (.aload_n 0) 1 57 := ⟨by decide +kernel, rfl⟩
theorem dd_Mod_write_57 : Dc mi_Mod_write 57 (.getfield 7) 3 60 := ⟨by decide +kernel, rfl⟩
theorem dd_Mod_write_60 : Dc mi_Mod_write 60 (.sipush 256) 3 63 := ⟨by decide +kernel, rfl⟩
theorem dd_Mod_write_63 : Dc mi_Mod_write 63 (.iload 5) 2 65 := ⟨by decide +kernel, rfl⟩
theorem dd_Mod_write_65 : Dc mi_Mod_write 65 (.iadd) 1 66 := ⟨by decide +kernel, rfl⟩
theorem dd_Mod_write_66 : Dc mi_Mod_write 66 (.iaload) 1 67 := ⟨by decide +kernel, rfl⟩
theorem dd_Mod_write_67 : Dc mi_Mod_write 67 (.iload_n 1) 1 68 := ⟨by decide +kernel, rfl⟩
theorem dd_Mod_write_68 : Db mi_Mod_write 68 (.if_icmp .ne 28) 28 71 96 := ⟨by decide +kernel, rfl, rfl⟩
theorem dd_Mod_write_71 : Dc mi_Mod_write 71 (.aload_n 0) 1 72 := ⟨by decide +kernel, rfl⟩
theorem dd_Mod_write_72 : Dc mi_Mod_write 72 (.getfield 7) 3 75 := ⟨by decide +kernel, rfl⟩
theorem dd_Mod_write_75 : Dc mi_Mod_write 75 (.sipush 448) 3 78 := ⟨by decide +kernel, rfl⟩
theorem dd_Mod_write_78 : Dc mi_Mod_write 78 (.iload_n 1) 1 79 := ⟨by decide +kernel, rfl⟩
theorem dd_Mod_write_79 : Dc mi_Mod_write 79 (.iadd) 1 80 := ⟨by decide +kernel, rfl⟩
theorem dd_Mod_write_80 : Dc mi_Mod_write 80 (.iaload) 1 81 := ⟨by decide +kernel, rfl⟩
theorem dd_Mod_write_81 : Dc mi_Mod_write 81 (.iconst 1) 1 82 := ⟨by decide +kernel, rfl⟩
theorem dd_Mod_write_82 : Db mi_Mod_write 82 (.if_icmp .eq 14) 14 85 96 := ⟨by decide +kernel, rfl, rfl⟩
theorem dd_Mod_write_85 : Dc mi_Mod_write 85 (.iload 6) 2 87 := ⟨by decide +kernel, rfl⟩
theorem dd_Mod_write_87 : Dc mi_Mod_write 87 (.iconst 0) 1 88 := ⟨by decide +kernel, rfl⟩
theorem dd_Mod_write_88 : Dc mi_Mod_write 88 (.bipush 63) 2 90 := ⟨by decide +kernel, rfl⟩
theorem dd_Mod_write_90 : Dc mi_Mod_write 90 (.invokestatic 35) 3 93 := ⟨by decide +kernel, rfl⟩
theorem dd_Mod_write_93 : Db mi_Mod_write 93 (.ifCond .ne 6) 6 96 99 := ⟨by decide +kernel, rfl, rfl⟩
theorem dd_Mod_write_96 : Dc mi_Mod_write 96 (.bipush (-4)) 2 98 := ⟨by decide +kernel, rfl⟩
theorem dd_Mod_write_98 : decode (mbc mi_Mod_write) 98 = .ok (retI (mrt mi_Mod_write), 1) := by decide +kernel
theorem dd_Mod_write_99 : Dc mi_Mod_write 99 (.aload_n 0) 1 100 := ⟨by decide +kernel, rfl⟩
theorem dd_Mod_write_100 : Dc mi_Mod_write 100 (.invokevirtual 90) 3 103 := ⟨by decide +kernel, rfl⟩
theorem dd_Mod_write_103 : Dc mi_Mod_write 103 (.aload_n 0) 1 104 := ⟨by decide +kernel, rfl⟩
theorem dd_Mod_write_104 : Dc mi_Mod_write 104 (.iload 6) 2 106 := ⟨by decide +kernel, rfl⟩
theorem dd_Mod_write_106 : Dc mi_Mod_write 106 (.invokevirtual 46) 3 109 := ⟨by decide +kernel, rfl⟩
theorem dd_Mod_write_109 : Dc mi_Mod_write 109 (.istore 7) 2 111 := ⟨by decide +kernel, rfl⟩
theorem dd_Mod_write_111 : Dc mi_Mod_write 111 (.aload_n 0) 1 112 := ⟨by decide +kernel, rfl⟩
theorem dd_Mod_write_112 : Dc mi_Mod_write 112 (.getfield 7) 3 115 := ⟨by decide +kernel, rfl⟩
theorem dd_Mod_write_115 : Dc mi_Mod_write 115 (.sipush 384) 3 118 := ⟨by decide +kernel, rfl⟩
theorem dd_Mod_write_118 : Dc mi_Mod_write 118 (.iload 5) 2 120 := ⟨by decide +kernel, rfl⟩
theorem dd_Mod_write_120 : Dc mi_Mod_write 120 (.iadd) 1 121 := ⟨by decide +kernel, rfl⟩
theorem dd_Mod_write_121 : Dc mi_Mod_write 121 (.aload_n 0) 1 122 := ⟨by decide +kernel, rfl⟩
theorem dd_Mod_write_122 : Dc mi_Mod_write 122 (.getfield 7) 3 125 := ⟨by decide +kernel, rfl⟩
theorem dd_Mod_write_125 : Dc mi_Mod_write 125 (.sipush 466) 3 128 := ⟨by decide +kernel, rfl⟩
theorem dd_Mod_write_128 : Dc mi_Mod_write 128 (.iaload) 1 129 := ⟨by decide +kernel, rfl⟩
theorem dd_Mod_write_129 : Dc mi_Mod_write 129 (.iastore) 1 130 := ⟨by decide +kernel, rfl⟩
theorem dd_Mod_write_130 : Dc mi_Mod_write 130 (.aload_n 0) 1 131 := ⟨by decide +kernel, rfl⟩
theorem dd_Mod_write_131 : Dc mi_Mod_write 131 (.iload 7) 2 133 := ⟨by decide +kernel, rfl⟩
theorem dd_Mod_write_133 : Dc mi_Mod_write 133 (.invokevirtual 50) 3 136 := ⟨by decide +kernel, rfl⟩
theorem dd_Mod_write_136 : Db mi_Mod_write 136 (.ifCond .eq 5) 5 139 141 := ⟨by decide +kernel, rfl, rfl⟩
theorem dd_Mod_write_139 : Dc mi_Mod_write 139 (.iconst 3) 1 140 := ⟨by decide +kernel, rfl⟩
theorem dd_Mod_write_140 : decode (mbc mi_Mod_write) 140 = .ok (retI (mrt mi_Mod_write), 1) := by decide +kernel
theorem dd_Mod_write_141 : Dc mi_Mod_write 141 (.aload_n 0) 1 142 := ⟨by decide +kernel, rfl⟩
theorem dd_Mod_write_142 : Dc mi_Mod_write 142 (.getfield 7) 3 145 := ⟨by decide +kernel, rfl⟩
theorem dd_Mod_write_145 : Dc mi_Mod_write 145 (.iconst 0) 1 146 := ⟨by decide +kernel, rfl⟩
theorem dd_Mod_write_146 : Dc mi_Mod_write 146 (.iload 6) 2 148 := ⟨by decide +kernel, rfl⟩
theorem dd_Mod_write_148 : Dc mi_Mod_write 148 (.iadd) 1 149 := ⟨by decide +kernel, rfl⟩
theorem dd_Mod_write_149 : Dc mi_Mod_write 149 (.iload 4) 2 151 := ⟨by decide +kernel, rfl⟩
theorem dd_Mod_write_151 : Dc mi_Mod_write 151 (.iastore) 1 152 := ⟨by decide +kernel, rfl⟩
theorem dd_Mod_write_152 : Dc mi_Mod_write 152 (.aload_n 0) 1 153 := ⟨by decide +kernel, rfl⟩
theorem dd_Mod_write_153 : Dc mi_Mod_write 153 (.iload 6) 2 155 := ⟨by decide +kernel, rfl⟩
theorem dd_Mod_write_155 : Dc mi_Mod_write 155 (.invokevirtual 99) 3 158 := ⟨by decide +kernel, rfl⟩
theorem dd_Mod_write_158 : Db mi_Mod_write 158 (.ifCond .eq 48) 48 161 206 := ⟨by decide +kernel, rfl, rfl⟩
theorem dd_Mod_write_161 : Dc mi_Mod_write 161 (.aload_n 0) 1 162 := ⟨by decide +kernel, rfl⟩
theorem dd_Mod_write_162 : Dc mi_Mod_write 162 (.getfield 7) 3 165 := ⟨by decide +kernel, rfl⟩
theorem dd_Mod_write_165 : Dc mi_Mod_write 165 (.sipush 460) 3 168 := ⟨by decide +kernel, rfl⟩
theorem dd_Mod_write_168 : Dc mi_Mod_write 168 (.iload_n 1) 1 169 := ⟨by decide +kernel, rfl⟩
theorem dd_Mod_write_169 : Dc mi_Mod_write 169 (.iadd) 1 170 := ⟨by decide +kernel, rfl⟩
theorem dd_Mod_write_170 : Dc mi_Mod_write 170 (.dup2) 1 171 := ⟨by decide +kernel, rfl⟩
theorem dd_Mod_write_171 : Dc mi_Mod_write 171 (.iaload) 1 172 := ⟨by decide +kernel, rfl⟩
theorem dd_Mod_write_172 : Dc mi_Mod_write 172 (.aload_n 0) 1 173 := ⟨by decide +kernel, rfl⟩
theorem dd_Mod_write_173 : Dc mi_Mod_write 173 (.getfield 7) 3 176 := ⟨by decide +kernel, rfl⟩
theorem dd_Mod_write_176 : Dc mi_Mod_write 176 (.bipush 64) 2 178 := ⟨by decide +kernel, rfl⟩
theorem dd_Mod_write_178 : Dc mi_Mod_write 178 (.iload 6) 2 180 := ⟨by decide +kernel, rfl⟩
theorem dd_Mod_write_180 : Dc mi_Mod_write 180 (.iadd) 1 181 := ⟨by decide +kernel, rfl⟩
theorem dd_Mod_write_181 : Dc mi_Mod_write 181 (.iaload) 1 182 := ⟨by decide +kernel, rfl⟩
theorem dd_Mod_write_182 : Dc mi_Mod_write 182 (.iconst 1) 1 183 := ⟨by decide +kernel, rfl⟩
theorem dd_Mod_write_183 : Db mi_Mod_write 183 (.if_icmp .ne 7) 7 186 190 := ⟨by decide +kernel, rfl, rfl⟩
theorem dd_Mod_write_186 : Dc mi_Mod_write 186 (.iconst 0) 1 187 := ⟨by decide +kernel, rfl⟩
theorem dd_Mod_write_187 : Db mi_Mod_write 187 (.goto 4) 4 190 191 := ⟨by decide +kernel, rfl, rfl⟩
theorem dd_Mod_write_190 : Dc mi_Mod_write 190 (.iconst 1) 1 191 := ⟨by decide +kernel, rfl⟩
theorem dd_Mod_write_191 : Dc mi_Mod_write 191 (.iadd) 1 192 := ⟨by decide +kernel, rfl⟩
theorem dd_Mod_write_192 : Dc mi_Mod_write 192 (.iastore) 1 193 := ⟨by decide +kernel, rfl⟩
theorem dd_Mod_write_193 : Dc mi_Mod_write 193 (.aload_n 0) 1 194 := ⟨by decide +kernel, rfl⟩
theorem dd_Mod_write_194 : Dc mi_Mod_write 194 (.getfield 7) 3 197 := ⟨by decide +kernel, rfl⟩
theorem dd_Mod_write_197 : Dc mi_Mod_write 197 (.bipush 64) 2 199 := ⟨by decide +kernel, rfl⟩
theorem dd_Mod_write_199 : Dc mi_Mod_write 199 (.iload 6) 2 201 := ⟨by decide +kernel, rfl⟩
theorem dd_Mod_write_201 : Dc mi_Mod_write 201 (.iadd) 1 202 := ⟨by decide +kernel, rfl⟩
theorem dd_Mod_write_202 : Dc mi_Mod_write 202 (.iconst 1) 1 203 := ⟨by decide +kernel, rfl⟩
theorem dd_Mod_write_203 : Dc mi_Mod_write 203 (.iastore) 1 204 := ⟨by decide +kernel, rfl⟩
theorem dd_Mod_write_204 : Dc mi_Mod_write 204 (.iconst 2) 1 205 := ⟨by decide +kernel, rfl⟩
theorem dd_Mod_write_205 : decode (mbc mi_Mod_write) 205 = .ok (retI (mrt mi_Mod_write), 1) := by decide +kernel
theorem dd_Mod_write_206 : Dc mi_Mod_write 206 (.iload 7) 2 208 := ⟨by decide +kernel, rfl⟩
theorem dd_Mod_write_208 : Dc mi_Mod_write 208 (.iload 5) 2 210 := ⟨by decide +kernel, rfl⟩
theorem dd_Mod_write_210 : Db mi_Mod_write 210 (.if_icmp .eq 7) 7 213 217 := ⟨by decide +kernel, rfl, rfl⟩
theorem dd_Mod_write_213 : Dc mi_Mod_write 213 (.iconst 1) 1 214 := ⟨by decide +kernel, rfl⟩
theorem dd_Mod_write_214 : Db mi_Mod_write 214 (.goto 29) 29 217 243 := ⟨by decide +kernel, rfl, rfl⟩
theorem dd_Mod_write_217 : Dc mi_Mod_write 217 (.iload_n 3) 1 218 := ⟨by decide +kernel, rfl⟩
theorem dd_Mod_write_218 : Dc mi_Mod_write 218 (.iconst 0) 1 219 := ⟨by decide +kernel, rfl⟩
theorem dd_Mod_write_219 : Dc mi_Mod_write 219 (.aload_n 0) 1 220 := ⟨by decide +kernel, rfl⟩
theorem dd_Mod_write_220 : Dc mi_Mod_write 220 (.getfield 7) 3 223 := ⟨by decide +kernel, rfl⟩
theorem dd_Mod_write_223 : Dc mi_Mod_write 223 (.sipush 320) 3 226 := ⟨by decide +kernel, rfl⟩
theorem dd_Mod_write_226 : Dc mi_Mod_write 226 (.iload 5) 2 228 := ⟨by decide +kernel, rfl⟩
theorem dd_Mod_write_228 : Dc mi_Mod_write 228 (.iadd) 1 229 := ⟨by decide +kernel, rfl⟩
theorem dd_Mod_write_229 : Dc mi_Mod_write 229 (.iaload) 1 230 := ⟨by decide +kernel, rfl⟩
theorem dd_Mod_write_230 : Dc mi_Mod_write 230 (.iconst 1) 1 231 := ⟨by decide +kernel, rfl⟩
theorem dd_Mod_write_231 : Dc mi_Mod_write 231 (.isub) 1 232 := ⟨by decide +kernel, rfl⟩
theorem dd_Mod_write_232 : Dc mi_Mod_write 232 (.invokestatic 35) 3 235 := ⟨by decide +kernel, rfl⟩
theorem dd_Mod_write_235 : Db mi_Mod_write 235 (.ifCond .eq 7) 7 238 242 := ⟨by decide +kernel, rfl, rfl⟩
theorem dd_Mod_write_238 : Dc mi_Mod_write 238 (.iconst 0) 1 239 := ⟨by decide +kernel, rfl⟩
theorem dd_Mod_write_239 : Db mi_Mod_write 239 (.goto 4) 4 242 243 := ⟨by decide +kernel, rfl, rfl⟩
theorem dd_Mod_write_242 : Dc mi_Mod_write 242 (.iconst 4) 1 243 := ⟨by decide +kernel, rfl⟩
theorem dd_Mod_write_243 : decode (mbc mi_Mod_write) 243 = .ok (retI (mrt mi_Mod_write), 1) := by decide +kernel
theorem dd_Mod_beginAt_0 : Dc mi_Mod_beginAt 0 (.iload_n 1) 1 1 := ⟨by decide +kernel, rfl⟩
theorem dd_Mod_beginAt_1 : Dc mi_Mod_beginAt 1 (.istore_n 2) 1 2 := ⟨by decide +kernel, rfl⟩
theorem dd_Mod_beginAt_2 : Dc mi_Mod_beginAt 2 (.aload_n 0) 1 3 := ⟨by decide +kernel, rfl⟩
theorem dd_Mod_beginAt_3 : Dc mi_Mod_beginAt 3 (.getfield 7) 3 6 := ⟨by decide +kernel, rfl⟩
theorem dd_Mod_beginAt_6 : Dc mi_Mod_beginAt 6 (.sipush 128) 3 9 := ⟨by decide +kernel, rfl⟩
theorem dd_Mod_beginAt_9 : Dc mi_Mod_beginAt 9 (.iload_n 2) 1 10 := ⟨by decide +kernel, rfl⟩
theorem dd_Mod_beginAt_10 : Dc mi_Mod_beginAt 10 (.iadd) 1 11 := ⟨by decide +kernel, rfl⟩
theorem dd_Mod_beginAt_11 : Dc mi_Mod_beginAt 11 (.iaload) 1 12 := ⟨by decide +kernel, rfl⟩
theorem dd_Mod_beginAt_12 : Db mi_Mod_beginAt 12 (.ifCond .ne 9) 9 15 21 := ⟨by decide +kernel, rfl, rfl⟩
theorem dd_Mod_beginAt_15 : Dc mi_Mod_beginAt 15 (.iinc 2 (-1)) 3 18 := ⟨by decide +kernel, rfl⟩
theorem dd_Mod_beginAt_18 : Db mi_Mod_beginAt 18 (.goto (-16)) (-16) 21 2 := ⟨by decide +kernel, rfl, rfl⟩
theorem dd_Mod_beginAt_21 : Dc mi_Mod_beginAt 21 (.iload_n 2) 1 22 := ⟨by decide +kernel, rfl⟩
theorem dd_Mod_beginAt_22 : decode (mbc mi_Mod_beginAt) 22 = .ok (retI (mrt mi_Mod_beginAt), 1) := by decide +kernel
theorem dd_Mod_isGuard_0 : Dc mi_Mod_isGuard 0 (.aload_n 0) 1 1 := ⟨by decide +kernel, rfl⟩
theorem dd_Mod_isGuard_1 : Dc mi_Mod_isGuard 1 (.iload_n 1) 1 2 := ⟨by decide +kernel, rfl⟩
theorem dd_Mod_isGuard_2 : Dc mi_Mod_isGuard 2 (.invokevirtual 46) 3 5 := ⟨by decide +kernel, rfl⟩
theorem dd_Mod_isGuard_5 : Dc mi_Mod_isGuard 5 (.istore_n 2) 1 6 := ⟨by decide +kernel, rfl⟩
theorem dd_Mod_isGuard_6 : Dc mi_Mod_isGuard 6 (.aload_n 0) 1 7 := ⟨by decide +kernel, rfl⟩
theorem dd_Mod_isGuard_7 : Dc mi_Mod_isGuard 7 (.iload_n 2) 1 8 := ⟨by decide +kernel, rfl⟩
theorem dd_Mod_isGuard_8 : Dc mi_Mod_isGuard 8 (.invokevirtual 42) 3 11 := ⟨by decide +kernel, rfl⟩
theorem dd_Mod_isGuard_11 : Db mi_Mod_isGuard 11 (.ifCond .eq 30) 30 14 41 := ⟨by decide +kernel, rfl, rfl⟩
theorem dd_Mod_isGuard_14 : Dc mi_Mod_isGuard 14 (.iload_n 1) 1 15 := ⟨by decide +kernel, rfl⟩
theorem dd_Mod_isGuard_15 : Dc mi_Mod_isGuard 15 (.iload_n 2) 1 16 := ⟨by decide +kernel, rfl⟩
theorem dd_Mod_isGuard_16 : Db mi_Mod_isGuard 16 (.if_icmp .eq 21) 21 19 37 := ⟨by decide +kernel, rfl, rfl⟩
theorem dd_Mod_isGuard_19 : Dc mi_Mod_isGuard 19 (.iload_n 1) 1 20 := ⟨by decide +kernel, rfl⟩
theorem dd_Mod_isGuard_20 : Dc mi_Mod_isGuard 20 (.iload_n 2) 1 21 := ⟨by decide +kernel, rfl⟩
theorem dd_Mod_isGuard_21 : Dc mi_Mod_isGuard 21 (.aload_n 0) 1 22 := ⟨by decide +kernel, rfl⟩
theorem dd_Mod_isGuard_22 : Dc mi_Mod_isGuard 22 (.getfield 7) 3 25 := ⟨by decide +kernel, rfl⟩
theorem dd_Mod_isGuard_25 : Dc mi_Mod_isGuard 25 (.sipush 320) 3 28 := ⟨by decide +kernel, rfl⟩
theorem dd_Mod_isGuard_28 : Dc mi_Mod_isGuard 28 (.iload_n 2) 1 29 := ⟨by decide +kernel, rfl⟩
theorem dd_Mod_isGuard_29 : Dc mi_Mod_isGuard 29 (.iadd) 1 30 := ⟨by decide +kernel, rfl⟩
theorem dd_Mod_isGuard_30 : Dc mi_Mod_isGuard 30 (.iaload) 1 31 := ⟨by decide +kernel, rfl⟩
theorem dd_Mod_isGuard_31 : Dc mi_Mod_isGuard 31 (.iadd) 1 32 := ⟨by decide +kernel, rfl⟩
theorem dd_Mod_isGuard_32 : Dc mi_Mod_isGuard 32 (.iconst 1) 1 33 := ⟨by decide +kernel, rfl⟩
theorem dd_Mod_isGuard_33 : Dc mi_Mod_isGuard 33 (.iadd) 1 34 := ⟨by decide +kernel, rfl⟩
theorem dd_Mod_isGuard_34 : Db mi_Mod_isGuard 34 (.if_icmp .ne 7) 7 37 41 := ⟨by decide +kernel, rfl, rfl⟩
theorem dd_Mod_isGuard_37 : Dc mi_Mod_isGuard 37 (.iconst 1) 1 38 := ⟨by decide +kernel, rfl⟩
theorem dd_Mod_isGuard_38 : Db mi_Mod_isGuard 38 (.goto 4) 4 41 42 := ⟨by decide +kernel, rfl, rfl⟩
theorem dd_Mod_isGuard_41 : Dc mi_Mod_isGuard 41 (.iconst 0) 1 42 := ⟨by decide +kernel, rfl⟩
theorem dd_Mod_isGuard_42 : decode (mbc mi_Mod_isGuard) 42 = .ok (retI (mrt mi_Mod_isGuard), 1) := by decide +kernel
theorem dd_Mod_touch_0 : Dc mi_Mod_touch 0 (.aload_n 0) 1 1 := ⟨by decide +kernel, rfl⟩
theorem dd_Mod_touch_1 : Dc mi_Mod_touch 1 (.iload_n 1) 1 2 := ⟨by decide +kernel, rfl⟩
theorem dd_Mod_touch_2 : Dc mi_Mod_touch 2 (.invokevirtual 78) 3 5 := ⟨by decide +kernel, rfl⟩
theorem dd_Mod_touch_5 : Dc mi_Mod_touch 5 (.istore_n 2) 1 6 := ⟨by decide +kernel, rfl⟩
theorem dd_Mod_touch_6 : Dc mi_Mod_touch 6 (.iload_n 2) 1 7 := ⟨by decide +kernel, rfl⟩
theorem dd_Mod_touch_7 : Dc mi_Mod_touch 7 (.bipush (-5)) 2 9 := ⟨by decide +kernel, rfl⟩
theorem dd_Mod_touch_9 : Db mi_Mod_touch 9 (.if_icmp .ne 5) 5 12 14 := ⟨by decide +kernel, rfl, rfl⟩
theorem dd_Mod_touch_12 : Dc mi_Mod_touch 12 (.iconst (-1)) 1 13 := ⟨by decide +kernel, rfl⟩
theorem dd_Mod_touch_13 : decode (mbc mi_Mod_touch) 13 = .ok (retI (mrt mi_Mod_touch), 1) := by decide +kernel
theorem dd_Mod_touch_14 : Dc mi_Mod_touch 14 (.aload_n 0) 1 15 := ⟨by decide +kernel, rfl⟩
theorem dd_Mod_touch_15 : Dc mi_Mod_touch 15 (.getfield 7) 3 18 := ⟨by decide +kernel, rfl⟩
theorem dd_Mod_touch_18 : Dc mi_Mod_touch 18 (.sipush 384) 3 21 := ⟨by decide +kernel, rfl⟩
theorem dd_Mod_touch_21 : Dc mi_Mod_touch 21 (.iload_n 2) 1 22 := ⟨by decide +kernel, rfl⟩
theorem dd_Mod_touch_22 : Dc mi_Mod_touch 22 (.iadd) 1 23 := ⟨by decide +kernel, rfl⟩
theorem dd_Mod_touch_23 : Dc mi_Mod_touch 23 (.iaload) 1 24 := ⟨by decide +kernel, rfl⟩
theorem dd_Mod_touch_24 : Dc mi_Mod_touch 24 (.aload_n 0) 1 25 := ⟨by decide +kernel, rfl⟩
theorem dd_Mod_touch_25 : Dc mi_Mod_touch 25 (.getfield 7) 3 28 := ⟨by decide +kernel, rfl⟩
theorem dd_Mod_touch_28 : Dc mi_Mod_touch 28 (.sipush 466) 3 31 := ⟨by decide +kernel, rfl⟩
theorem dd_Mod_touch_31 : Dc mi_Mod_touch 31 (.iaload) 1 32 := ⟨by decide +kernel, rfl⟩
theorem dd_Mod_touch_32 : Db mi_Mod_touch 32 (.if_icmp .ne 6) 6 35 38 := ⟨by decide +kernel, rfl, rfl⟩
theorem dd_Mod_touch_35 : Dc mi_Mod_touch 35 (.bipush (-5)) 2 37 := ⟨by decide +kernel, rfl⟩
theorem dd_Mod_touch_37 : decode (mbc mi_Mod_touch) 37 = .ok (retI (mrt mi_Mod_touch), 1) := by decide +kernel
theorem dd_Mod_touch_38 : Dc mi_Mod_touch 38 (.aload_n 0) 1 39 := ⟨by decide +kernel, rfl⟩
theorem dd_Mod_touch_39 : Dc mi_Mod_touch 39 (.invokevirtual 90) 3 42 := ⟨by decide +kernel, rfl⟩
theorem dd_Mod_touch_42 : Dc mi_Mod_touch 42 (.aload_n 0) 1 43 := ⟨by decide +kernel, rfl⟩
theorem dd_Mod_touch_43 : Dc mi_Mod_touch 43 (.getfield 7) 3 46 := ⟨by decide +kernel, rfl⟩
theorem dd_Mod_touch_46 : Dc mi_Mod_touch 46 (.sipush 466) 3 49 := ⟨by decide +kernel, rfl⟩
theorem dd_Mod_touch_49 : Dc mi_Mod_touch 49 (.iaload) 1 50 := ⟨by decide +kernel, rfl⟩
theorem dd_Mod_touch_50 : Dc mi_Mod_touch 50 (.aload_n 0) 1 51 := ⟨by decide +kernel, rfl⟩
theorem dd_Mod_touch_51 : Dc mi_Mod_touch 51 (.sipush 384) 3 54 := ⟨by decide +kernel, rfl⟩
theorem dd_Mod_touch_54 : Dc mi_Mod_touch 54 (.iload_n 2) 1 55 := ⟨by decide +kernel, rfl⟩
theorem dd_Mod_touch_55 : Dc mi_Mod_touch 55 (.iadd) 1 56 := ⟨by decide +kernel, rfl⟩
theorem dd_Mod_touch_56 : Dc mi_Mod_touch 56 (.aload_n 0) 1 57 := ⟨by decide +kernel, rfl⟩
theorem dd_Mod_touch_57 : Dc mi_Mod_touch 57 (.getfield 7) 3 60 := ⟨by decide +kernel, rfl⟩
theorem dd_Mod_touch_60 : Dc mi_Mod_touch 60 (.sipush 466) 3 63 := ⟨by decide +kernel, rfl⟩
theorem dd_Mod_touch_63 : Dc mi_Mod_touch 63 (.iaload) 1 64 := ⟨by decide +kernel, rfl⟩
theorem dd_Mod_touch_64 : Dc mi_Mod_touch 64 (.invokevirtual 102) 3 67 := ⟨by decide +kernel, rfl⟩
theorem dd_Mod_touch_67 : Dc mi_Mod_touch 67 (.isub) 1 68 := ⟨by decide +kernel, rfl⟩
theorem dd_Mod_touch_68 : decode (mbc mi_Mod_touch) 68 = .ok (retI (mrt mi_Mod_touch), 1) := by decide +kernel
theorem dd_Mod_puts_0 : Dc mi_Mod_puts 0 (.aload_n 0) 1 1 := ⟨by decide +kernel, rfl⟩
theorem dd_Mod_puts_1 : Dc mi_Mod_puts 1 (.getfield 7) 3 4 := ⟨by decide +kernel, rfl⟩
theorem dd_Mod_puts_4 : Dc mi_Mod_puts 4 (.iload_n 1) 1 5 := ⟨by decide +kernel, rfl⟩
theorem dd_Mod_puts_5 : Dc mi_Mod_puts 5 (.iaload) 1 6 := ⟨by decide +kernel, rfl⟩
theorem dd_Mod_puts_6 : Dc mi_Mod_puts 6 (.istore_n 3) 1 7 := ⟨by decide +kernel, rfl⟩
theorem dd_Mod_puts_7 : Dc mi_Mod_puts 7 (.aload_n 0) 1 8 := ⟨by decide +kernel, rfl⟩
theorem dd_Mod_puts_8 : Dc mi_Mod_puts 8 (.getfield 7) 3 11 := ⟨by decide +kernel, rfl⟩
theorem dd_Mod_puts_11 : Dc mi_Mod_puts 11 (.iload_n 1) 1 12 := ⟨by decide +kernel, rfl⟩
theorem dd_Mod_puts_12 : Dc mi_Mod_puts 12 (.iload_n 2) 1 13 := ⟨by decide +kernel, rfl⟩
theorem dd_Mod_puts_13 : Dc mi_Mod_puts 13 (.iastore) 1 14 := ⟨by decide +kernel, rfl⟩
theorem dd_Mod_puts_14 : Dc mi_Mod_puts 14 (.iload_n 3) 1 15 := ⟨by decide +kernel, rfl⟩
theorem dd_Mod_puts_15 : decode (mbc mi_Mod_puts) 15 = .ok (retI (mrt mi_Mod_puts), 1) := by decide +kernel
theorem dd_Mod_live_0 : Dc mi_Mod_live 0 (.iload_n 1) 1 1 := ⟨by decide +kernel, rfl⟩
theorem dd_Mod_live_1 : Dc mi_Mod_live 1 (.invokestatic 71) 3 4 := ⟨by decide +kernel, rfl⟩
theorem dd_Mod_live_4 : Db mi_Mod_live 4 (.ifCond .ne 5) 5 7 9 := ⟨by decide +kernel, rfl, rfl⟩
theorem dd_Mod_live_7 : Dc mi_Mod_live 7 (.iconst (-1)) 1 8 := ⟨by decide +kernel, rfl⟩
theorem dd_Mod_live_8 : decode (mbc mi_Mod_live) 8 = .ok (retI (mrt mi_Mod_live), 1) := by decide +kernel
theorem dd_Mod_live_9 : Dc mi_Mod_live 9 (.aload_n 0) 1 10 := ⟨by decide +kernel, rfl⟩
theorem dd_Mod_live_10 : Dc mi_Mod_live 10 (.getfield 7) 3 13 := ⟨by decide +kernel, rfl⟩
theorem dd_Mod_live_13 : Dc mi_Mod_live 13 (.sipush 448) 3 16 := ⟨by decide +kernel, rfl⟩
theorem dd_Mod_live_16 : Dc mi_Mod_live 16 (.iload_n 1) 1 17 := ⟨by decide +kernel, rfl⟩
theorem dd_Mod_live_17 : Dc mi_Mod_live 17 (.iadd) 1 18 := ⟨by decide +kernel, rfl⟩
theorem dd_Mod_live_18 : Dc mi_Mod_live 18 (.iaload) 1 19 := ⟨by decide +kernel, rfl⟩
theorem dd_Mod_live_19 : Db mi_Mod_live 19 (.ifCond .ne 7) 7 22 26 := ⟨by decide +kernel, rfl, rfl⟩
theorem dd_Mod_live_22 : Dc mi_Mod_live 22 (.iconst 1) 1 23 := ⟨by decide +kernel, rfl⟩
theorem dd_Mod_live_23 : Db mi_Mod_live 23 (.goto 4) 4 26 27 := ⟨by decide +kernel, rfl, rfl⟩
theorem dd_Mod_live_26 : Dc mi_Mod_live 26 (.iconst 0) 1 27 := ⟨by decide +kernel, rfl⟩
theorem dd_Mod_live_27 : Dc mi_Mod_live 27 (.iload_n 2) 1 28 := ⟨by decide +kernel, rfl⟩
theorem dd_Mod_live_28 : Db mi_Mod_live 28 (.if_icmp .ne 6) 6 31 34 := ⟨by decide +kernel, rfl, rfl⟩
theorem dd_Mod_live_31 : Dc mi_Mod_live 31 (.bipush (-5)) 2 33 := ⟨by decide +kernel, rfl⟩
theorem dd_Mod_live_33 : decode (mbc mi_Mod_live) 33 = .ok (retI (mrt mi_Mod_live), 1) := by decide +kernel
theorem dd_Mod_live_34 : Dc mi_Mod_live 34 (.aload_n 0) 1 35 := ⟨by decide +kernel, rfl⟩
theorem dd_Mod_live_35 : Dc mi_Mod_live 35 (.invokevirtual 90) 3 38 := ⟨by decide +kernel, rfl⟩
theorem dd_Mod_live_38 : Dc mi_Mod_live 38 (.aload_n 0) 1 39 := ⟨by decide +kernel, rfl⟩
theorem dd_Mod_live_39 : Dc mi_Mod_live 39 (.getfield 7) 3 42 := ⟨by decide +kernel, rfl⟩
theorem dd_Mod_live_42 : Dc mi_Mod_live 42 (.sipush 448) 3 45 := ⟨by decide +kernel, rfl⟩
theorem dd_Mod_live_45 : Dc mi_Mod_live 45 (.iload_n 1) 1 46 := ⟨by decide +kernel, rfl⟩
theorem dd_Mod_live_46 : Dc mi_Mod_live 46 (.iadd) 1 47 := ⟨by decide +kernel, rfl⟩
theorem dd_Mod_live_47 : Dc mi_Mod_live 47 (.iload_n 2) 1 48 := ⟨by decide +kernel, rfl⟩
theorem dd_Mod_live_48 : Db mi_Mod_live 48 (.ifCond .eq 7) 7 51 55 := ⟨by decide +kernel, rfl, rfl⟩
theorem dd_Mod_live_51 : Dc mi_Mod_live 51 (.iconst 0) 1 52 := ⟨by decide +kernel, rfl⟩
theorem dd_Mod_live_52 : Db mi_Mod_live 52 (.goto 4) 4 55 56 := ⟨by decide +kernel, rfl, rfl⟩
theorem dd_Mod_live_55 : Dc mi_Mod_live 55 (.iconst 1) 1 56 := ⟨by decide +kernel, rfl⟩
theorem dd_Mod_live_56 : Dc mi_Mod_live 56 (.iastore) 1 57 := ⟨by decide +kernel, rfl⟩
theorem dd_Mod_live_57 : Dc mi_Mod_live 57 (.aload_n 0) 1 58 := ⟨by decide +kernel, rfl⟩
theorem dd_Mod_live_58 : Dc mi_Mod_live 58 (.iload_n 1) 1 59 := ⟨by decide +kernel, rfl⟩
theorem dd_Mod_live_59 : Dc mi_Mod_live 59 (.invokevirtual 105) 3 62 := ⟨by decide +kernel, rfl⟩
theorem dd_Mod_live_62 : decode (mbc mi_Mod_live) 62 = .ok (retI (mrt mi_Mod_live), 1) := by decide +kernel
theorem dd_Mod_blocksOf_0 : Dc mi_Mod_blocksOf 0 (.iconst 0) 1 1 := ⟨by decide +kernel, rfl⟩
theorem dd_Mod_blocksOf_1 : Dc mi_Mod_blocksOf 1 (.istore_n 2) 1 2 := ⟨by decide +kernel, rfl⟩
theorem dd_Mod_blocksOf_2 : Dc mi_Mod_blocksOf 2 (.iconst 0) 1 3 := ⟨by decide +kernel, rfl⟩
theorem dd_Mod_blocksOf_3 : Dc mi_Mod_blocksOf 3 (.istore_n 3) 1 4 := ⟨by decide +kernel, rfl⟩
theorem dd_Mod_blocksOf_4 : Dc mi_Mod_blocksOf 4 (.iload_n 3) 1 5 := ⟨by decide +kernel, rfl⟩
theorem dd_Mod_blocksOf_5 : Dc mi_Mod_blocksOf 5 (.bipush 64) 2 7 := ⟨by decide +kernel, rfl⟩
theorem dd_Mod_blocksOf_7 : Db mi_Mod_blocksOf 7 (.if_icmp .ge 39) 39 10 46 := ⟨by decide +kernel, rfl, rfl⟩
theorem dd_Mod_blocksOf_10 : Dc mi_Mod_blocksOf 10 (.iload_n 2) 1 11 := ⟨by decide +kernel, rfl⟩
theorem dd_Mod_blocksOf_11 : Dc mi_Mod_blocksOf 11 (.aload_n 0) 1 12 := ⟨by decide +kernel, rfl⟩
theorem dd_Mod_blocksOf_12 : Dc mi_Mod_blocksOf 12 (.iload_n 3) 1 13 := ⟨by decide +kernel, rfl⟩
theorem dd_Mod_blocksOf_13 : Dc mi_Mod_blocksOf 13 (.invokevirtual 42) 3 16 := ⟨by decide +kernel, rfl⟩
theorem dd_Mod_blocksOf_16 : Db mi_Mod_blocksOf 16 (.ifCond .eq 21) 21 19 37 := ⟨by decide +kernel, rfl, rfl⟩
theorem dd_Mod_blocksOf_19 : Dc mi_Mod_blocksOf 19 (.aload_n 0) 1 20 := ⟨by decide +kernel, rfl⟩
theorem dd_Mod_blocksOf_20 : Dc mi_Mod_blocksOf 20 (.getfield 7) 3 23 := ⟨by decide +kernel, rfl⟩
theorem dd_Mod_blocksOf_23 : Dc mi_Mod_blocksOf 23 (.sipush 256) 3 26 := ⟨by decide +kernel, rfl⟩
theorem dd_Mod_blocksOf_26 : Dc mi_Mod_blocksOf 26 (.iload_n 3) 1 27 := ⟨by decide +kernel, rfl⟩
theorem dd_Mod_blocksOf_27 : Dc mi_Mod_blocksOf 27 (.iadd) 1 28 := ⟨by decide +kernel, rfl⟩
theorem dd_Mod_blocksOf_28 : Dc mi_Mod_blocksOf 28 (.iaload) 1 29 := ⟨by decide +kernel, rfl⟩
theorem dd_Mod_blocksOf_29 : Dc mi_Mod_blocksOf 29 (.iload_n 1) 1 30 := ⟨by decide +kernel, rfl⟩
theorem dd_Mod_blocksOf_30 : Db mi_Mod_blocksOf 30 (.if_icmp .ne 7) 7 33 37 := ⟨by decide +kernel, rfl, rfl⟩
theorem dd_Mod_blocksOf_33 : Dc mi_Mod_blocksOf 33 (.iconst 1) 1 34 := ⟨by decide +kernel, rfl⟩
theorem dd_Mod_blocksOf_34 : Db mi_Mod_blocksOf 34 (.goto 4) 4 37 38 := ⟨by decide +kernel, rfl, rfl⟩
theorem dd_Mod_blocksOf_37 : Dc mi_Mod_blocksOf 37 (.iconst 0) 1 38 := ⟨by decide +kernel, rfl⟩
theorem dd_Mod_blocksOf_38 : Dc mi_Mod_blocksOf 38 (.iadd) 1 39 := ⟨by decide +kernel, rfl⟩
theorem dd_Mod_blocksOf_39 : Dc mi_Mod_blocksOf 39 (.istore_n 2) 1 40 := ⟨by decide +kernel, rfl⟩
theorem dd_Mod_blocksOf_40 : Dc mi_Mod_blocksOf 40 (.iinc 3 1) 3 43 := ⟨by decide +kernel, rfl⟩
theorem dd_Mod_blocksOf_43 : Db mi_Mod_blocksOf 43 (.goto (-39)) (-39) 46 4 := ⟨by decide +kernel, rfl, rfl⟩
theorem dd_Mod_blocksOf_46 : Dc mi_Mod_blocksOf 46 (.iload_n 2) 1 47 := ⟨by decide +kernel, rfl⟩
theorem dd_Mod_blocksOf_47 : decode (mbc mi_Mod_blocksOf) 47 = .ok (retI (mrt mi_Mod_blocksOf), 1) := by decide +kernel
theorem dd_Mod_setLimit_0 : Dc mi_Mod_setLimit 0 (.iload_n 1) 1 1 := ⟨by decide +kernel, rfl⟩
theorem dd_Mod_setLimit_1 : Dc mi_Mod_setLimit 1 (.invokestatic 71) 3 4 := ⟨by decide +kernel, rfl⟩
theorem dd_Mod_setLimit_4 : Db mi_Mod_setLimit 4 (.ifCond .ne 5) 5 7 9 := ⟨by decide +kernel, rfl, rfl⟩
theorem dd_Mod_setLimit_7 : Dc mi_Mod_setLimit 7 (.iconst (-1)) 1 8 := ⟨by decide +kernel, rfl⟩
theorem dd_Mod_setLimit_8 : decode (mbc mi_Mod_setLimit) 8 = .ok (retI (mrt mi_Mod_setLimit), 1) := by decide +kernel
theorem dd_Mod_setLimit_9 : Dc mi_Mod_setLimit 9 (.iload_n 2) 1 10 := ⟨by decide +kernel, rfl⟩
theorem dd_Mod_setLimit_10 : Dc mi_Mod_setLimit 10 (.iconst 0) 1 11 := ⟨by decide +kernel, rfl⟩
theorem dd_Mod_setLimit_11 : Dc mi_Mod_setLimit 11 (.bipush 64) 2 13 := ⟨by decide +kernel, rfl⟩
theorem dd_Mod_setLimit_13 : Dc mi_Mod_setLimit 13 (.invokestatic 35) 3 16 := ⟨by decide +kernel, rfl⟩
theorem dd_Mod_setLimit_16 : Db mi_Mod_setLimit 16 (.ifCond .ne 6) 6 19 22 := ⟨by decide +kernel, rfl, rfl⟩
theorem dd_Mod_setLimit_19 : Dc mi_Mod_setLimit 19 (.bipush (-2)) 2 21 := ⟨by decide +kernel, rfl⟩
theorem dd_Mod_setLimit_21 : decode (mbc mi_Mod_setLimit) 21 = .ok (retI (mrt mi_Mod_setLimit), 1) := by decide +kernel
theorem dd_Mod_setLimit_22 : Dc mi_Mod_setLimit 22 (.aload_n 0) 1 23 := ⟨by decide +kernel, rfl⟩
theorem dd_Mod_setLimit_23 : Dc mi_Mod_setLimit 23 (.getfield 7) 3 26 := ⟨by decide +kernel, rfl⟩
theorem dd_Mod_setLimit_26 : Dc mi_Mod_setLimit 26 (.sipush 454) 3 29 := ⟨by decide +kernel, rfl⟩
theorem dd_Mod_setLimit_29 : Dc mi_Mod_setLimit 29 (.iload_n 1) 1 30 := ⟨by decide +kernel, rfl⟩
theorem dd_Mod_setLimit_30 : Dc mi_Mod_setLimit 30 (.iadd) 1 31 := ⟨by decide +kernel, rfl⟩
theorem dd_Mod_setLimit_31 : Dc mi_Mod_setLimit 31 (.iaload) 1 32 := ⟨by decide +kernel, rfl⟩
theorem dd_Mod_setLimit_32 : Dc mi_Mod_setLimit 32 (.iload_n 2) 1 33 := ⟨by decide +kernel, rfl⟩
theorem dd_Mod_setLimit_33 : Db mi_Mod_setLimit 33 (.if_icmp .ne 6) 6 36 39 := ⟨by decide +kernel, rfl, rfl⟩
theorem dd_Mod_setLimit_36 : Dc mi_Mod_setLimit 36 (.bipush (-5)) 2 38 := ⟨by decide +kernel, rfl⟩
theorem dd_Mod_setLimit_38 : decode (mbc mi_Mod_setLimit) 38 = .ok (retI (mrt mi_Mod_setLimit), 1) := by decide +kernel
theorem dd_Mod_setLimit_39 : Dc mi_Mod_setLimit 39 (.aload_n 0) 1 40 := ⟨by decide +kernel, rfl⟩
theorem dd_Mod_setLimit_40 : Dc mi_Mod_setLimit 40 (.invokevirtual 90) 3 43 := ⟨by decide +kernel, rfl⟩
theorem dd_Mod_setLimit_43 : Dc mi_Mod_setLimit 43 (.aload_n 0) 1 44 := ⟨by decide +kernel, rfl⟩
theorem dd_Mod_setLimit_44 : Dc mi_Mod_setLimit 44 (.sipush 454) 3 47 := ⟨by decide +kernel, rfl⟩
theorem dd_Mod_setLimit_47 : Dc mi_Mod_setLimit 47 (.iload_n 1) 1 48 := ⟨by decide +kernel, rfl⟩
theorem dd_Mod_setLimit_48 : Dc mi_Mod_setLimit 48 (.iadd) 1 49 := ⟨by decide +kernel, rfl⟩
theorem dd_Mod_setLimit_49 : Dc mi_Mod_setLimit 49 (.iload_n 2) 1 50 := ⟨by decide +kernel, rfl⟩
theorem dd_Mod_setLimit_50 : Dc mi_Mod_setLimit 50 (.invokevirtual 102) 3 53 := ⟨by decide +kernel, rfl⟩
theorem dd_Mod_setLimit_53 : decode (mbc mi_Mod_setLimit) 53 = .ok (retI (mrt mi_Mod_setLimit), 1) := by decide +kernel
theorem dd_Mod_setPatience_0 : Dc mi_Mod_setPatience 0 (.iload_n 1) 1 1 := ⟨by decide +kernel, rfl⟩
theorem dd_Mod_setPatience_1 : Dc mi_Mod_setPatience 1 (.iconst 1) 1 2 := ⟨by decide +kernel, rfl⟩
theorem dd_Mod_setPatience_2 : Dc mi_Mod_setPatience 2 (.sipush 500) 3 5 := ⟨by decide +kernel, rfl⟩
theorem dd_Mod_setPatience_5 : Dc mi_Mod_setPatience 5 (.invokestatic 35) 3 8 := ⟨by decide +kernel, rfl⟩
theorem dd_Mod_setPatience_8 : Db mi_Mod_setPatience 8 (.ifCond .ne 6) 6 11 14 := ⟨by decide +kernel, rfl, rfl⟩
theorem dd_Mod_setPatience_11 : Dc mi_Mod_setPatience 11 (.bipush (-2)) 2 13 := ⟨by decide +kernel, rfl⟩
theorem dd_Mod_setPatience_13 : decode (mbc mi_Mod_setPatience) 13 = .ok (retI (mrt mi_Mod_setPatience), 1) := by decide +kernel
theorem dd_Mod_setPatience_14 : Dc mi_Mod_setPatience 14 (.aload_n 0) 1 15 := ⟨by decide +kernel, rfl⟩
theorem dd_Mod_setPatience_15 : Dc mi_Mod_setPatience 15 (.getfield 7) 3 18 := ⟨by decide +kernel, rfl⟩
theorem dd_Mod_setPatience_18 : Dc mi_Mod_setPatience 18 (.sipush 467) 3 21 := ⟨by decide +kernel, rfl⟩
theorem dd_Mod_setPatience_21 : Dc mi_Mod_setPatience 21 (.iaload) 1 22 := ⟨by decide +kernel, rfl⟩
theorem dd_Mod_setPatience_22 : Dc mi_Mod_setPatience 22 (.iload_n 1) 1 23 := ⟨by decide +kernel, rfl⟩
theorem dd_Mod_setPatience_23 : Db mi_Mod_setPatience 23 (.if_icmp .ne 6) 6 26 29 := ⟨by decide +kernel, rfl, rfl⟩
theorem dd_Mod_setPatience_26 : Dc mi_Mod_setPatience 26 (.bipush (-5)) 2 28 := ⟨by decide +kernel, rfl⟩
theorem dd_Mod_setPatience_28 : decode (mbc mi_Mod_setPatience) 28 = .ok (retI (mrt mi_Mod_setPatience), 1) := by decide +kernel
theorem dd_Mod_setPatience_29 : Dc mi_Mod_setPatience 29 (.aload_n 0) 1 30 := ⟨by decide +kernel, rfl⟩
theorem dd_Mod_setPatience_30 : Dc mi_Mod_setPatience 30 (.invokevirtual 90) 3 33 := ⟨by decide +kernel, rfl⟩
theorem dd_Mod_setPatience_33 : Dc mi_Mod_setPatience 33 (.aload_n 0) 1 34 := ⟨by decide +kernel, rfl⟩
theorem dd_Mod_setPatience_34 : Dc mi_Mod_setPatience 34 (.sipush 467) 3 37 := ⟨by decide +kernel, rfl⟩
theorem dd_Mod_setPatience_37 : Dc mi_Mod_setPatience 37 (.iload_n 1) 1 38 := ⟨by decide +kernel, rfl⟩
theorem dd_Mod_setPatience_38 : Dc mi_Mod_setPatience 38 (.invokevirtual 102) 3 41 := ⟨by decide +kernel, rfl⟩
theorem dd_Mod_setPatience_41 : decode (mbc mi_Mod_setPatience) 41 = .ok (retI (mrt mi_Mod_setPatience), 1) := by decide +kernel
theorem dd_Mod_pass_0 : Dc mi_Mod_pass 0 (.aload_n 0) 1 1 := ⟨by decide +kernel, rfl⟩
theorem dd_Mod_pass_1 : Dc mi_Mod_pass 1 (.iload_n 1) 1 2 := ⟨by decide +kernel, rfl⟩
theorem dd_Mod_pass_2 : Dc mi_Mod_pass 2 (.invokevirtual 108) 3 5 := ⟨by decide +kernel, rfl⟩
theorem dd_Mod_pass_5 : Dc mi_Mod_pass 5 (.istore_n 2) 1 6 := ⟨by decide +kernel, rfl⟩
theorem dd_Mod_pass_6 : Dc mi_Mod_pass 6 (.iload_n 2) 1 7 := ⟨by decide +kernel, rfl⟩
theorem dd_Mod_pass_7 : Db mi_Mod_pass 7 (.ifCond .ge 5) 5 10 12 := ⟨by decide +kernel, rfl, rfl⟩
theorem dd_Mod_pass_10 : Dc mi_Mod_pass 10 (.iload_n 2) 1 11 := ⟨by decide +kernel, rfl⟩
theorem dd_Mod_pass_11 : decode (mbc mi_Mod_pass) 11 = .ok (retI (mrt mi_Mod_pass), 1) := by decide +kernel
theorem dd_Mod_pass_12 : Dc mi_Mod_pass 12 (.aload_n 0) 1 13 := ⟨by decide +kernel, rfl⟩
theorem dd_Mod_pass_13 : Dc mi_Mod_pass 13 (.invokevirtual 90) 3 16 := ⟨by decide +kernel, rfl⟩
theorem dd_Mod_pass_16 : Dc mi_Mod_pass 16 (.aload_n 0) 1 17 := ⟨by decide +kernel, rfl⟩
theorem dd_Mod_pass_17 : Dc mi_Mod_pass 17 (.iload_n 1) 1 18 := ⟨by decide +kernel, rfl⟩
theorem dd_Mod_pass_18 : Dc mi_Mod_pass 18 (.invokevirtual 111) 3 21 := ⟨by decide +kernel, rfl⟩
theorem dd_Mod_pass_21 : decode (mbc mi_Mod_pass) 21 = .ok (retI (mrt mi_Mod_pass), 1) := by decide +kernel
theorem dd_Mod_passFault_0 : Dc mi_Mod_passFault 0 (.iload_n 1) 1 1 := ⟨by decide +kernel, rfl⟩
theorem dd_Mod_passFault_1 : Dc mi_Mod_passFault 1 (.iconst 1) 1 2 := ⟨by decide +kernel, rfl⟩
theorem dd_Mod_passFault_2 : Dc mi_Mod_passFault 2 (.sipush 500) 3 5 := ⟨by decide +kernel, rfl⟩
theorem dd_Mod_passFault_5 : Dc mi_Mod_passFault 5 (.invokestatic 35) 3 8 := ⟨by decide +kernel, rfl⟩
theorem dd_Mod_passFault_8 : Db mi_Mod_passFault 8 (.ifCond .ne 8) 8 11 16 := ⟨by decide +kernel, rfl, rfl⟩
theorem dd_Mod_passFault_11 : Dc mi_Mod_passFault 11 (.bipush (-2)) 2 13 := ⟨by decide +kernel, rfl⟩
theorem dd_Mod_passFault_13 : Db mi_Mod_passFault 13 (.goto 25) 25 16 38 := ⟨by decide +kernel, rfl, rfl⟩
theorem dd_Mod_passFault_16 : Dc mi_Mod_passFault 16 (.aload_n 0) 1 17 := ⟨by decide +kernel, rfl⟩
theorem dd_Mod_passFault_17 : Dc mi_Mod_passFault 17 (.getfield 7) 3 20 := ⟨by decide +kernel, rfl⟩
theorem dd_Mod_passFault_20 : Dc mi_Mod_passFault 20 (.sipush 466) 3 23 := ⟨by decide +kernel, rfl⟩
theorem dd_Mod_passFault_23 : Dc mi_Mod_passFault 23 (.iaload) 1 24 := ⟨by decide +kernel, rfl⟩
theorem dd_Mod_passFault_24 : Dc mi_Mod_passFault 24 (.iload_n 1) 1 25 := ⟨by decide +kernel, rfl⟩
theorem dd_Mod_passFault_25 : Dc mi_Mod_passFault 25 (.iadd) 1 26 := ⟨by decide +kernel, rfl⟩
theorem dd_Mod_passFault_26 : Dc mi_Mod_passFault 26 (.sipush 9999) 3 29 := ⟨by decide +kernel, rfl⟩
theorem dd_Mod_passFault_29 : Db mi_Mod_passFault 29 (.if_icmp .le 8) 8 32 37 := ⟨by decide +kernel, rfl, rfl⟩
theorem dd_Mod_passFault_32 : Dc mi_Mod_passFault 32 (.bipush (-3)) 2 34 := ⟨by decide +kernel, rfl⟩
theorem dd_Mod_passFault_34 : Db mi_Mod_passFault 34 (.goto 4) 4 37 38 := ⟨by decide +kernel, rfl, rfl⟩
theorem dd_Mod_passFault_37 : Dc mi_Mod_passFault 37 (.iconst 0) 1 38 := ⟨by decide +kernel, rfl⟩
theorem dd_Mod_passFault_38 : decode (mbc mi_Mod_passFault) 38 = .ok (retI (mrt mi_Mod_passFault), 1) := by decide +kernel
theorem dd_Mod_passes_0 : Dc mi_Mod_passes 0 (.aload_n 0) 1 1 := ⟨by decide +kernel, rfl⟩
theorem dd_Mod_passes_1 : Dc mi_Mod_passes 1 (.bipush 6) 2 3 := ⟨by decide +kernel, rfl⟩
theorem dd_Mod_passes_3 : Dc mi_Mod_passes 3 (.invokevirtual 81) 3 6 := ⟨by decide +kernel, rfl⟩
theorem dd_Mod_passes_6 : Dc mi_Mod_passes 6 (.istore_n 2) 1 7 := ⟨by decide +kernel, rfl⟩
theorem dd_Mod_passes_7 : Dc mi_Mod_passes 7 (.aload_n 0) 1 8 := ⟨by decide +kernel, rfl⟩
theorem dd_Mod_passes_8 : Dc mi_Mod_passes 8 (.getfield 7) 3 11 := ⟨by decide +kernel, rfl⟩
theorem dd_Mod_passes_11 : Dc mi_Mod_passes 11 (.sipush 466) 3 14 := ⟨by decide +kernel, rfl⟩
theorem dd_Mod_passes_14 : Dc mi_Mod_passes 14 (.dup2) 1 15 := ⟨by decide +kernel, rfl⟩
theorem dd_Mod_passes_15 : Dc mi_Mod_passes 15 (.iaload) 1 16 := ⟨by decide +kernel, rfl⟩
theorem dd_Mod_passes_16 : Dc mi_Mod_passes 16 (.iload_n 1) 1 17 := ⟨by decide +kernel, rfl⟩
theorem dd_Mod_passes_17 : Dc mi_Mod_passes 17 (.iadd) 1 18 := ⟨by decide +kernel, rfl⟩
theorem dd_Mod_passes_18 : Dc mi_Mod_passes 18 (.iastore) 1 19 := ⟨by decide +kernel, rfl⟩
theorem dd_Mod_passes_19 : Dc mi_Mod_passes 19 (.aload_n 0) 1 20 := ⟨by decide +kernel, rfl⟩
theorem dd_Mod_passes_20 : Dc mi_Mod_passes 20 (.bipush 6) 2 22 := ⟨by decide +kernel, rfl⟩
theorem dd_Mod_passes_22 : Dc mi_Mod_passes 22 (.invokevirtual 81) 3 25 := ⟨by decide +kernel, rfl⟩
theorem dd_Mod_passes_25 : Dc mi_Mod_passes 25 (.iload_n 2) 1 26 := ⟨by decide +kernel, rfl⟩
theorem dd_Mod_passes_26 : Dc mi_Mod_passes 26 (.isub) 1 27 := ⟨by decide +kernel, rfl⟩
theorem dd_Mod_passes_27 : decode (mbc mi_Mod_passes) 27 = .ok (retI (mrt mi_Mod_passes), 1) := by decide +kernel
theorem dd_Mod_leaks_0 : Dc mi_Mod_leaks 0 (.iconst 0) 1 1 := ⟨by decide +kernel, rfl⟩
theorem dd_Mod_leaks_1 : Dc mi_Mod_leaks 1 (.istore_n 2) 1 2 := ⟨by decide +kernel, rfl⟩
theorem dd_Mod_leaks_2 : Dc mi_Mod_leaks 2 (.iconst 0) 1 3 := ⟨by decide +kernel, rfl⟩
theorem dd_Mod_leaks_3 : Dc mi_Mod_leaks 3 (.istore_n 3) 1 4 := ⟨by decide +kernel, rfl⟩
theorem dd_Mod_leaks_4 : Dc mi_Mod_leaks 4 (.iload_n 3) 1 5 := ⟨by decide +kernel, rfl⟩
theorem dd_Mod_leaks_5 : Dc mi_Mod_leaks 5 (.bipush 64) 2 7 := ⟨by decide +kernel, rfl⟩
theorem dd_Mod_leaks_7 : Db mi_Mod_leaks 7 (.if_icmp .ge 45) 45 10 52 := ⟨by decide +kernel, rfl, rfl⟩
theorem dd_Mod_leaks_10 : Dc mi_Mod_leaks 10 (.iload_n 2) 1 11 := ⟨by decide +kernel, rfl⟩
theorem dd_Mod_leaks_11 : Dc mi_Mod_leaks 11 (.aload_n 0) 1 12 := ⟨by decide +kernel, rfl⟩
theorem dd_Mod_leaks_12 : Dc mi_Mod_leaks 12 (.iload_n 3) 1 13 := ⟨by decide +kernel, rfl⟩
theorem dd_Mod_leaks_13 : Dc mi_Mod_leaks 13 (.invokevirtual 68) 3 16 := ⟨by decide +kernel, rfl⟩
theorem dd_Mod_leaks_16 : Db mi_Mod_leaks 16 (.ifCond .eq 27) 27 19 43 := ⟨by decide +kernel, rfl, rfl⟩
theorem dd_Mod_leaks_19 : Dc mi_Mod_leaks 19 (.iload_n 1) 1 20 := ⟨by decide +kernel, rfl⟩
theorem dd_Mod_leaks_20 : Dc mi_Mod_leaks 20 (.bipush 6) 2 22 := ⟨by decide +kernel, rfl⟩
theorem dd_Mod_leaks_22 : Db mi_Mod_leaks 22 (.if_icmp .eq 17) 17 25 39 := ⟨by decide +kernel, rfl, rfl⟩
theorem dd_Mod_leaks_25 : Dc mi_Mod_leaks 25 (.aload_n 0) 1 26 := ⟨by decide +kernel, rfl⟩
theorem dd_Mod_leaks_26 : Dc mi_Mod_leaks 26 (.getfield 7) 3 29 := ⟨by decide +kernel, rfl⟩
theorem dd_Mod_leaks_29 : Dc mi_Mod_leaks 29 (.sipush 256) 3 32 := ⟨by decide +kernel, rfl⟩
theorem dd_Mod_leaks_32 : Dc mi_Mod_leaks 32 (.iload_n 3) 1 33 := ⟨by decide +kernel, rfl⟩
theorem dd_Mod_leaks_33 : Dc mi_Mod_leaks 33 (.iadd) 1 34 := ⟨by decide +kernel, rfl⟩
theorem dd_Mod_leaks_34 : Dc mi_Mod_leaks 34 (.iaload) 1 35 := ⟨by decide +kernel, rfl⟩
theorem dd_Mod_leaks_35 : Dc mi_Mod_leaks 35 (.iload_n 1) 1 36 := ⟨by decide +kernel, rfl⟩
theorem dd_Mod_leaks_36 : Db mi_Mod_leaks 36 (.if_icmp .ne 7) 7 39 43 := ⟨by decide +kernel, rfl, rfl⟩
theorem dd_Mod_leaks_39 : Dc mi_Mod_leaks 39 (.iconst 1) 1 40 := ⟨by decide +kernel, rfl⟩
theorem dd_Mod_leaks_40 : Db mi_Mod_leaks 40 (.goto 4) 4 43 44 := ⟨by decide +kernel, rfl, rfl⟩
theorem dd_Mod_leaks_43 : Dc mi_Mod_leaks 43 (.iconst 0) 1 44 := ⟨by decide +kernel, rfl⟩
theorem dd_Mod_leaks_44 : Dc mi_Mod_leaks 44 (.iadd) 1 45 := ⟨by decide +kernel, rfl⟩
theorem dd_Mod_leaks_45 : Dc mi_Mod_leaks 45 (.istore_n 2) 1 46 := ⟨by decide +kernel, rfl⟩
theorem dd_Mod_leaks_46 : Dc mi_Mod_leaks 46 (.iinc 3 1) 3 49 := ⟨by decide +kernel, rfl⟩
theorem dd_Mod_leaks_49 : Db mi_Mod_leaks 49 (.goto (-45)) (-45) 52 4 := ⟨by decide +kernel, rfl, rfl⟩
theorem dd_Mod_leaks_52 : Dc mi_Mod_leaks 52 (.iload_n 2) 1 53 := ⟨by decide +kernel, rfl⟩
theorem dd_Mod_leaks_53 : decode (mbc mi_Mod_leaks) 53 = .ok (retI (mrt mi_Mod_leaks), 1) := by decide +kernel
end
section
/-! decode rows, printed by wip/whole/gen_dec.py -/
theorem dd_Mod_isLeak_0 : Dc mi_Mod_isLeak 0 (.aload_n 0) 1 1 := ⟨by decide +kernel, rfl⟩
theorem dd_Mod_isLeak_1 : Dc mi_Mod_isLeak 1 (.iload_n 1) 1 2 := ⟨by decide +kernel, rfl⟩
theorem dd_Mod_isLeak_2 : Dc mi_Mod_isLeak 2 (.invokevirtual 42) 3 5 := ⟨by decide +kernel, rfl⟩
theorem dd_Mod_isLeak_5 : Db mi_Mod_isLeak 5 (.ifCond .eq 60) 60 8 65 := ⟨by decide +kernel, rfl, rfl⟩
theorem dd_Mod_isLeak_8 : Dc mi_Mod_isLeak 8 (.aload_n 0) 1 9 := ⟨by decide +kernel, rfl⟩
theorem dd_Mod_isLeak_9 : Dc mi_Mod_isLeak 9 (.getfield 7) 3 12 := ⟨by decide +kernel, rfl⟩
theorem dd_Mod_isLeak_12 : Dc mi_Mod_isLeak 12 (.sipush 448) 3 15 := ⟨by decide +kernel, rfl⟩
theorem dd_Mod_isLeak_15 : Dc mi_Mod_isLeak 15 (.aload_n 0) 1 16 := ⟨by decide +kernel, rfl⟩
theorem dd_Mod_isLeak_16 : Dc mi_Mod_isLeak 16 (.getfield 7) 3 19 := ⟨by decide +kernel, rfl⟩
theorem dd_Mod_isLeak_19 : Dc mi_Mod_isLeak 19 (.sipush 256) 3 22 := ⟨by decide +kernel, rfl⟩
theorem dd_Mod_isLeak_22 : Dc mi_Mod_isLeak 22 (.iload_n 1) 1 23 := ⟨by decide +kernel, rfl⟩
theorem dd_Mod_isLeak_23 : Dc mi_Mod_isLeak 23 (.iadd) 1 24 := ⟨by decide +kernel, rfl⟩
theorem dd_Mod_isLeak_24 : Dc mi_Mod_isLeak 24 (.iaload) 1 25 := ⟨by decide +kernel, rfl⟩
theorem dd_Mod_isLeak_25 : Dc mi_Mod_isLeak 25 (.iadd) 1 26 := ⟨by decide +kernel, rfl⟩
theorem dd_Mod_isLeak_26 : Dc mi_Mod_isLeak 26 (.iaload) 1 27 := ⟨by decide +kernel, rfl⟩
theorem dd_Mod_isLeak_27 : Dc mi_Mod_isLeak 27 (.iconst 1) 1 28 := ⟨by decide +kernel, rfl⟩
theorem dd_Mod_isLeak_28 : Db mi_Mod_isLeak 28 (.if_icmp .eq 33) 33 31 61 := ⟨by decide +kernel, rfl, rfl⟩
theorem dd_Mod_isLeak_31 : Dc mi_Mod_isLeak 31 (.aload_n 0) 1 32 := ⟨by decide +kernel, rfl⟩
theorem dd_Mod_isLeak_32 : Dc mi_Mod_isLeak 32 (.getfield 7) 3 35 := ⟨by decide +kernel, rfl⟩
theorem dd_Mod_isLeak_35 : Dc mi_Mod_isLeak 35 (.sipush 466) 3 38 := ⟨by decide +kernel, rfl⟩
theorem dd_Mod_isLeak_38 : Dc mi_Mod_isLeak 38 (.iaload) 1 39 := ⟨by decide +kernel, rfl⟩
theorem dd_Mod_isLeak_39 : Dc mi_Mod_isLeak 39 (.aload_n 0) 1 40 := ⟨by decide +kernel, rfl⟩
theorem dd_Mod_isLeak_40 : Dc mi_Mod_isLeak 40 (.getfield 7) 3 43 := ⟨by decide +kernel, rfl⟩
theorem dd_Mod_isLeak_43 : Dc mi_Mod_isLeak 43 (.sipush 384) 3 46 := ⟨by decide +kernel, rfl⟩
theorem dd_Mod_isLeak_46 : Dc mi_Mod_isLeak 46 (.iload_n 1) 1 47 := ⟨by decide +kernel, rfl⟩
theorem dd_Mod_isLeak_47 : Dc mi_Mod_isLeak 47 (.iadd) 1 48 := ⟨by decide +kernel, rfl⟩
theorem dd_Mod_isLeak_48 : Dc mi_Mod_isLeak 48 (.iaload) 1 49 := ⟨by decide +kernel, rfl⟩
theorem dd_Mod_isLeak_49 : Dc mi_Mod_isLeak 49 (.isub) 1 50 := ⟨by decide +kernel, rfl⟩
theorem dd_Mod_isLeak_50 : Dc mi_Mod_isLeak 50 (.aload_n 0) 1 51 := ⟨by decide +kernel, rfl⟩
theorem dd_Mod_isLeak_51 : Dc mi_Mod_isLeak 51 (.getfield 7) 3 54 := ⟨by decide +kernel, rfl⟩
theorem dd_Mod_isLeak_54 : Dc mi_Mod_isLeak 54 (.sipush 467) 3 57 := ⟨by decide +kernel, rfl⟩
theorem dd_Mod_isLeak_57 : Dc mi_Mod_isLeak 57 (.iaload) 1 58 := ⟨by decide +kernel, rfl⟩
theorem dd_Mod_isLeak_58 : Db mi_Mod_isLeak 58 (.if_icmp .lt 7) 7 61 65 := ⟨by decide +kernel, rfl, rfl⟩
theorem dd_Mod_isLeak_61 : Dc mi_Mod_isLeak 61 (.iconst 1) 1 62 := ⟨by decide +kernel, rfl⟩
theorem dd_Mod_isLeak_62 : Db mi_Mod_isLeak 62 (.goto 4) 4 65 66 := ⟨by decide +kernel, rfl, rfl⟩
theorem dd_Mod_isLeak_65 : Dc mi_Mod_isLeak 65 (.iconst 0) 1 66 := ⟨by decide +kernel, rfl⟩
theorem dd_Mod_isLeak_66 : decode (mbc mi_Mod_isLeak) 66 = .ok (retI (mrt mi_Mod_isLeak), 1) := by decide +kernel
theorem dd_Mod_sweep_0 : Dc mi_Mod_sweep 0 (.aload_n 0) 1 1 := ⟨by decide +kernel, rfl⟩
theorem dd_Mod_sweep_1 : Dc mi_Mod_sweep 1 (.bipush 6) 2 3 := ⟨by decide +kernel, rfl⟩
theorem dd_Mod_sweep_3 : Dc mi_Mod_sweep 3 (.invokevirtual 81) 3 6 := ⟨by decide +kernel, rfl⟩
theorem dd_Mod_sweep_6 : Db mi_Mod_sweep 6 (.ifCond .ne 6) 6 9 12 := ⟨by decide +kernel, rfl, rfl⟩
theorem dd_Mod_sweep_9 : Dc mi_Mod_sweep 9 (.bipush (-5)) 2 11 := ⟨by decide +kernel, rfl⟩
theorem dd_Mod_sweep_11 : decode (mbc mi_Mod_sweep) 11 = .ok (retI (mrt mi_Mod_sweep), 1) := by decide +kernel
theorem dd_Mod_sweep_12 : Dc mi_Mod_sweep 12 (.aload_n 0) 1 13 := ⟨by decide +kernel, rfl⟩
theorem dd_Mod_sweep_13 : Dc mi_Mod_sweep 13 (.invokevirtual 90) 3 16 := ⟨by decide +kernel, rfl⟩
theorem dd_Mod_sweep_16 : Dc mi_Mod_sweep 16 (.aload_n 0) 1 17 := ⟨by decide +kernel, rfl⟩
theorem dd_Mod_sweep_17 : Dc mi_Mod_sweep 17 (.invokevirtual 114) 3 20 := ⟨by decide +kernel, rfl⟩
theorem dd_Mod_sweep_20 : decode (mbc mi_Mod_sweep) 20 = .ok (retI (mrt mi_Mod_sweep), 1) := by decide +kernel
theorem dd_Mod_sweeps_0 : Dc mi_Mod_sweeps 0 (.iconst 0) 1 1 := ⟨by decide +kernel, rfl⟩
theorem dd_Mod_sweeps_1 : Dc mi_Mod_sweeps 1 (.istore_n 1) 1 2 := ⟨by decide +kernel, rfl⟩
theorem dd_Mod_sweeps_2 : Dc mi_Mod_sweeps 2 (.iconst 0) 1 3 := ⟨by decide +kernel, rfl⟩
theorem dd_Mod_sweeps_3 : Dc mi_Mod_sweeps 3 (.istore_n 2) 1 4 := ⟨by decide +kernel, rfl⟩
theorem dd_Mod_sweeps_4 : Dc mi_Mod_sweeps 4 (.iload_n 2) 1 5 := ⟨by decide +kernel, rfl⟩
theorem dd_Mod_sweeps_5 : Dc mi_Mod_sweeps 5 (.bipush 64) 2 7 := ⟨by decide +kernel, rfl⟩
theorem dd_Mod_sweeps_7 : Db mi_Mod_sweeps 7 (.if_icmp .ge 26) 26 10 33 := ⟨by decide +kernel, rfl, rfl⟩
theorem dd_Mod_sweeps_10 : Dc mi_Mod_sweeps 10 (.aload_n 0) 1 11 := ⟨by decide +kernel, rfl⟩
theorem dd_Mod_sweeps_11 : Dc mi_Mod_sweeps 11 (.iload_n 2) 1 12 := ⟨by decide +kernel, rfl⟩
theorem dd_Mod_sweeps_12 : Dc mi_Mod_sweeps 12 (.invokevirtual 68) 3 15 := ⟨by decide +kernel, rfl⟩
theorem dd_Mod_sweeps_15 : Db mi_Mod_sweeps 15 (.ifCond .eq 12) 12 18 27 := ⟨by decide +kernel, rfl, rfl⟩
theorem dd_Mod_sweeps_18 : Dc mi_Mod_sweeps 18 (.aload_n 0) 1 19 := ⟨by decide +kernel, rfl⟩
theorem dd_Mod_sweeps_19 : Dc mi_Mod_sweeps 19 (.iload_n 2) 1 20 := ⟨by decide +kernel, rfl⟩
theorem dd_Mod_sweeps_20 : Dc mi_Mod_sweeps 20 (.invokevirtual 84) 3 23 := ⟨by decide +kernel, rfl⟩
theorem dd_Mod_sweeps_23 : Dc mi_Mod_sweeps 23 (.istore_n 3) 1 24 := ⟨by decide +kernel, rfl⟩
theorem dd_Mod_sweeps_24 : Dc mi_Mod_sweeps 24 (.iinc 1 1) 3 27 := ⟨by decide +kernel, rfl⟩
theorem dd_Mod_sweeps_27 : Dc mi_Mod_sweeps 27 (.iinc 2 1) 3 30 := ⟨by decide +kernel, rfl⟩
theorem dd_Mod_sweeps_30 : Db mi_Mod_sweeps 30 (.goto (-26)) (-26) 33 4 := ⟨by decide +kernel, rfl, rfl⟩
theorem dd_Mod_sweeps_33 : Dc mi_Mod_sweeps 33 (.iload_n 1) 1 34 := ⟨by decide +kernel, rfl⟩
theorem dd_Mod_sweeps_34 : decode (mbc mi_Mod_sweeps) 34 = .ok (retI (mrt mi_Mod_sweeps), 1) := by decide +kernel
theorem dd_Mod_type_0 : Dc mi_Mod_type 0 (.aload_n 0) 1 1 := ⟨by decide +kernel, rfl⟩
theorem dd_Mod_type_1 : Dc mi_Mod_type 1 (.getfield 118) 3 4 := ⟨by decide +kernel, rfl⟩
theorem dd_Mod_type_4 : Dc mi_Mod_type 4 (.bipush 60) 2 6 := ⟨by decide +kernel, rfl⟩
theorem dd_Mod_type_6 : Db mi_Mod_type 6 (.if_icmp .ne 6) 6 9 12 := ⟨by decide +kernel, rfl, rfl⟩
theorem dd_Mod_type_9 : Dc mi_Mod_type 9 (.bipush (-3)) 2 11 := ⟨by decide +kernel, rfl⟩
theorem dd_Mod_type_11 : decode (mbc mi_Mod_type) 11 = .ok (retI (mrt mi_Mod_type), 1) := by decide +kernel
theorem dd_Mod_type_12 : Dc mi_Mod_type 12 (.aload_n 0) 1 13 := ⟨by decide +kernel, rfl⟩
theorem dd_Mod_type_13 : Dc mi_Mod_type 13 (.getfield 25) 3 16 := ⟨by decide +kernel, rfl⟩
theorem dd_Mod_type_16 : Dc mi_Mod_type 16 (.aload_n 0) 1 17 := ⟨by decide +kernel, rfl⟩
theorem dd_Mod_type_17 : Dc mi_Mod_type 17 (.getfield 118) 3 20 := ⟨by decide +kernel, rfl⟩
theorem dd_Mod_type_20 : Dc mi_Mod_type 20 (.iload_n 1) 1 21 := ⟨by decide +kernel, rfl⟩
theorem dd_Mod_type_21 : Dc mi_Mod_type 21 (.iastore) 1 22 := ⟨by decide +kernel, rfl⟩
theorem dd_Mod_type_22 : Dc mi_Mod_type 22 (.aload_n 0) 1 23 := ⟨by decide +kernel, rfl⟩
theorem dd_Mod_type_23 : Dc mi_Mod_type 23 (.dup) 1 24 := ⟨by decide +kernel, rfl⟩
theorem dd_Mod_type_24 : Dc mi_Mod_type 24 (.getfield 118) 3 27 := ⟨by decide +kernel, rfl⟩
theorem dd_Mod_type_27 : Dc mi_Mod_type 27 (.iconst 1) 1 28 := ⟨by decide +kernel, rfl⟩
theorem dd_Mod_type_28 : Dc mi_Mod_type 28 (.iadd) 1 29 := ⟨by decide +kernel, rfl⟩
theorem dd_Mod_type_29 : Dc mi_Mod_type 29 (.putfield 118) 3 32 := ⟨by decide +kernel, rfl⟩
theorem dd_Mod_type_32 : Dc mi_Mod_type 32 (.aload_n 0) 1 33 := ⟨by decide +kernel, rfl⟩
theorem dd_Mod_type_33 : Dc mi_Mod_type 33 (.getfield 118) 3 36 := ⟨by decide +kernel, rfl⟩
theorem dd_Mod_type_36 : decode (mbc mi_Mod_type) 36 = .ok (retI (mrt mi_Mod_type), 1) := by decide +kernel
theorem dd_Mod_clearText_0 : Dc mi_Mod_clearText 0 (.aload_n 0) 1 1 := ⟨by decide +kernel, rfl⟩
theorem dd_Mod_clearText_1 : Dc mi_Mod_clearText 1 (.getfield 118) 3 4 := ⟨by decide +kernel, rfl⟩
theorem dd_Mod_clearText_4 : Dc mi_Mod_clearText 4 (.istore_n 1) 1 5 := ⟨by decide +kernel, rfl⟩
theorem dd_Mod_clearText_5 : Dc mi_Mod_clearText 5 (.aload_n 0) 1 6 := ⟨by decide +kernel, rfl⟩
theorem dd_Mod_clearText_6 : Dc mi_Mod_clearText 6 (.iconst 0) 1 7 := ⟨by decide +kernel, rfl⟩
theorem dd_Mod_clearText_7 : Dc mi_Mod_clearText 7 (.putfield 118) 3 10 := ⟨by decide +kernel, rfl⟩
theorem dd_Mod_clearText_10 : Dc mi_Mod_clearText 10 (.iload_n 1) 1 11 := ⟨by decide +kernel, rfl⟩
theorem dd_Mod_clearText_11 : decode (mbc mi_Mod_clearText) 11 = .ok (retI (mrt mi_Mod_clearText), 1) := by decide +kernel
theorem dd_Mod_perform_0 : Dc mi_Mod_perform 0 (.aload_n 0) 1 1 := ⟨by decide +kernel, rfl⟩
theorem dd_Mod_perform_1 : Dc mi_Mod_perform 1 (.iconst 0) 1 2 := ⟨by decide +kernel, rfl⟩
theorem dd_Mod_perform_2 : Dc mi_Mod_perform 2 (.invokevirtual 152) 3 5 := ⟨by decide +kernel, rfl⟩
theorem dd_Mod_perform_5 : Dc mi_Mod_perform 5 (.istore_n 1) 1 6 := ⟨by decide +kernel, rfl⟩
theorem dd_Mod_perform_6 : Dc mi_Mod_perform 6 (.aload_n 0) 1 7 := ⟨by decide +kernel, rfl⟩
theorem dd_Mod_perform_7 : Dc mi_Mod_perform 7 (.getfield 124) 3 10 := ⟨by decide +kernel, rfl⟩
theorem dd_Mod_perform_10 : Db mi_Mod_perform 10 (.ifCond .eq 11) 11 13 21 := ⟨by decide +kernel, rfl, rfl⟩
theorem dd_Mod_perform_13 : Dc mi_Mod_perform 13 (.bipush (-100)) 2 15 := ⟨by decide +kernel, rfl⟩
theorem dd_Mod_perform_15 : Dc mi_Mod_perform 15 (.aload_n 0) 1 16 := ⟨by decide +kernel, rfl⟩
theorem dd_Mod_perform_16 : Dc mi_Mod_perform 16 (.getfield 121) 3 19 := ⟨by decide +kernel, rfl⟩
theorem dd_Mod_perform_19 : Dc mi_Mod_perform 19 (.isub) 1 20 := ⟨by decide +kernel, rfl⟩
theorem dd_Mod_perform_20 : decode (mbc mi_Mod_perform) 20 = .ok (retI (mrt mi_Mod_perform), 1) := by decide +kernel
theorem dd_Mod_perform_21 : Dc mi_Mod_perform 21 (.aload_n 0) 1 22 := ⟨by decide +kernel, rfl⟩
theorem dd_Mod_perform_22 : Dc mi_Mod_perform 22 (.invokevirtual 156) 3 25 := ⟨by decide +kernel, rfl⟩
theorem dd_Mod_perform_25 : Dc mi_Mod_perform 25 (.aload_n 0) 1 26 := ⟨by decide +kernel, rfl⟩
theorem dd_Mod_perform_26 : Dc mi_Mod_perform 26 (.iconst 1) 1 27 := ⟨by decide +kernel, rfl⟩
theorem dd_Mod_perform_27 : Dc mi_Mod_perform 27 (.invokevirtual 152) 3 30 := ⟨by decide +kernel, rfl⟩
theorem dd_Mod_perform_30 : Dc mi_Mod_perform 30 (.istore_n 1) 1 31 := ⟨by decide +kernel, rfl⟩
theorem dd_Mod_perform_31 : Dc mi_Mod_perform 31 (.aload_n 0) 1 32 := ⟨by decide +kernel, rfl⟩
theorem dd_Mod_perform_32 : Dc mi_Mod_perform 32 (.invokevirtual 159) 3 35 := ⟨by decide +kernel, rfl⟩
theorem dd_Mod_perform_35 : Dc mi_Mod_perform 35 (.aload_n 0) 1 36 := ⟨by decide +kernel, rfl⟩
theorem dd_Mod_perform_36 : Dc mi_Mod_perform 36 (.getfield 143) 3 39 := ⟨by decide +kernel, rfl⟩
theorem dd_Mod_perform_39 : Db mi_Mod_perform 39 (.ifCond .ge 19) 19 42 58 := ⟨by decide +kernel, rfl, rfl⟩
theorem dd_Mod_perform_42 : Dc mi_Mod_perform 42 (.aload_n 0) 1 43 := ⟨by decide +kernel, rfl⟩
theorem dd_Mod_perform_43 : Dc mi_Mod_perform 43 (.iload_n 1) 1 44 := ⟨by decide +kernel, rfl⟩
theorem dd_Mod_perform_44 : Dc mi_Mod_perform 44 (.putfield 28) 3 47 := ⟨by decide +kernel, rfl⟩
theorem dd_Mod_perform_47 : Dc mi_Mod_perform 47 (.aload_n 0) 1 48 := ⟨by decide +kernel, rfl⟩
theorem dd_Mod_perform_48 : Dc mi_Mod_perform 48 (.aload_n 0) 1 49 := ⟨by decide +kernel, rfl⟩
theorem dd_Mod_perform_49 : Dc mi_Mod_perform 49 (.getfield 143) 3 52 := ⟨by decide +kernel, rfl⟩
theorem dd_Mod_perform_52 : Dc mi_Mod_perform 52 (.putfield 32) 3 55 := ⟨by decide +kernel, rfl⟩
theorem dd_Mod_perform_55 : Dc mi_Mod_perform 55 (.bipush (-4)) 2 57 := ⟨by decide +kernel, rfl⟩
theorem dd_Mod_perform_57 : decode (mbc mi_Mod_perform) 57 = .ok (retI (mrt mi_Mod_perform), 1) := by decide +kernel
theorem dd_Mod_perform_58 : Dc mi_Mod_perform 58 (.aload_n 0) 1 59 := ⟨by decide +kernel, rfl⟩
theorem dd_Mod_perform_59 : Dc mi_Mod_perform 59 (.invokevirtual 90) 3 62 := ⟨by decide +kernel, rfl⟩
theorem dd_Mod_perform_62 : Dc mi_Mod_perform 62 (.aload_n 0) 1 63 := ⟨by decide +kernel, rfl⟩
theorem dd_Mod_perform_63 : Dc mi_Mod_perform 63 (.iconst 1) 1 64 := ⟨by decide +kernel, rfl⟩
theorem dd_Mod_perform_64 : Dc mi_Mod_perform 64 (.invokevirtual 152) 3 67 := ⟨by decide +kernel, rfl⟩
theorem dd_Mod_perform_67 : decode (mbc mi_Mod_perform) 67 = .ok (retI (mrt mi_Mod_perform), 1) := by decide +kernel
theorem dd_Mod_go_0 : Dc mi_Mod_go 0 (.aload_n 0) 1 1 := ⟨by decide +kernel, rfl⟩
theorem dd_Mod_go_1 : Dc mi_Mod_go 1 (.iconst 0) 1 2 := ⟨by decide +kernel, rfl⟩
theorem dd_Mod_go_2 : Dc mi_Mod_go 2 (.putfield 121) 3 5 := ⟨by decide +kernel, rfl⟩
theorem dd_Mod_go_5 : Dc mi_Mod_go 5 (.aload_n 0) 1 6 := ⟨by decide +kernel, rfl⟩
theorem dd_Mod_go_6 : Dc mi_Mod_go 6 (.iconst 0) 1 7 := ⟨by decide +kernel, rfl⟩
theorem dd_Mod_go_7 : Dc mi_Mod_go 7 (.putfield 124) 3 10 := ⟨by decide +kernel, rfl⟩
theorem dd_Mod_go_10 : Dc mi_Mod_go 10 (.aload_n 0) 1 11 := ⟨by decide +kernel, rfl⟩
theorem dd_Mod_go_11 : Dc mi_Mod_go 11 (.iconst 0) 1 12 := ⟨by decide +kernel, rfl⟩
theorem dd_Mod_go_12 : Dc mi_Mod_go 12 (.putfield 143) 3 15 := ⟨by decide +kernel, rfl⟩
theorem dd_Mod_go_15 : Dc mi_Mod_go 15 (.iconst 0) 1 16 := ⟨by decide +kernel, rfl⟩
theorem dd_Mod_go_16 : Dc mi_Mod_go 16 (.istore_n 2) 1 17 := ⟨by decide +kernel, rfl⟩
theorem dd_Mod_go_17 : Dc mi_Mod_go 17 (.iconst 1) 1 18 := ⟨by decide +kernel, rfl⟩
theorem dd_Mod_go_18 : Dc mi_Mod_go 18 (.istore_n 3) 1 19 := ⟨by decide +kernel, rfl⟩
theorem dd_Mod_go_19 : Dc mi_Mod_go 19 (.iload_n 3) 1 20 := ⟨by decide +kernel, rfl⟩
theorem dd_Mod_go_20 : Db mi_Mod_go 20 (.ifCond .eq 99) 99 23 119 := ⟨by decide +kernel, rfl, rfl⟩
theorem dd_Mod_go_23 : Dc mi_Mod_go 23 (.aload_n 0) 1 24 := ⟨by decide +kernel, rfl⟩
theorem dd_Mod_go_24 : Dc mi_Mod_go 24 (.invokevirtual 146) 3 27 := ⟨by decide +kernel, rfl⟩
theorem dd_Mod_go_27 : Dc mi_Mod_go 27 (.aload_n 0) 1 28 := ⟨by decide +kernel, rfl⟩
theorem dd_Mod_go_28 : Dc mi_Mod_go 28 (.iload_n 1) 1 29 := ⟨by decide +kernel, rfl⟩
theorem dd_Mod_go_29 : Db mi_Mod_go 29 (.ifCond .eq 10) 10 32 39 := ⟨by decide +kernel, rfl, rfl⟩
theorem dd_Mod_go_32 : Dc mi_Mod_go 32 (.aload_n 0) 1 33 := ⟨by decide +kernel, rfl⟩
theorem dd_Mod_go_33 : Dc mi_Mod_go 33 (.invokevirtual 149) 3 36 := ⟨by decide +kernel, rfl⟩
theorem dd_Mod_go_36 : Db mi_Mod_go 36 (.goto 4) 4 39 40 := ⟨by decide +kernel, rfl, rfl⟩
theorem dd_Mod_go_39 : Dc mi_Mod_go 39 (.iconst 0) 1 40 := ⟨by decide +kernel, rfl⟩
theorem dd_Mod_go_40 : Dc mi_Mod_go 40 (.putfield 143) 3 43 := ⟨by decide +kernel, rfl⟩
theorem dd_Mod_go_43 : Dc mi_Mod_go 43 (.iload_n 2) 1 44 := ⟨by decide +kernel, rfl⟩
theorem dd_Mod_go_44 : Dc mi_Mod_go 44 (.aload_n 0) 1 45 := ⟨by decide +kernel, rfl⟩
theorem dd_Mod_go_45 : Dc mi_Mod_go 45 (.getfield 143) 3 48 := ⟨by decide +kernel, rfl⟩
theorem dd_Mod_go_48 : Db mi_Mod_go 48 (.ifCond .ne 7) 7 51 55 := ⟨by decide +kernel, rfl, rfl⟩
theorem dd_Mod_go_51 : Dc mi_Mod_go 51 (.iconst 1) 1 52 := ⟨by decide +kernel, rfl⟩
theorem dd_Mod_go_52 : Db mi_Mod_go 52 (.goto 4) 4 55 56 := ⟨by decide +kernel, rfl, rfl⟩
theorem dd_Mod_go_55 : Dc mi_Mod_go 55 (.iconst 0) 1 56 := ⟨by decide +kernel, rfl⟩
theorem dd_Mod_go_56 : Dc mi_Mod_go 56 (.iadd) 1 57 := ⟨by decide +kernel, rfl⟩
theorem dd_Mod_go_57 : Dc mi_Mod_go 57 (.istore_n 2) 1 58 := ⟨by decide +kernel, rfl⟩
theorem dd_Mod_go_58 : Dc mi_Mod_go 58 (.aload_n 0) 1 59 := ⟨by decide +kernel, rfl⟩
theorem dd_Mod_go_59 : Dc mi_Mod_go 59 (.getfield 124) 3 62 := ⟨by decide +kernel, rfl⟩
theorem dd_Mod_go_62 : Db mi_Mod_go 62 (.ifCond .ne 25) 25 65 87 := ⟨by decide +kernel, rfl, rfl⟩
theorem dd_Mod_go_65 : Dc mi_Mod_go 65 (.aload_n 0) 1 66 := ⟨by decide +kernel, rfl⟩
theorem dd_Mod_go_66 : Dc mi_Mod_go 66 (.getfield 143) 3 69 := ⟨by decide +kernel, rfl⟩
theorem dd_Mod_go_69 : Db mi_Mod_go 69 (.ifCond .ne 18) 18 72 87 := ⟨by decide +kernel, rfl, rfl⟩
theorem dd_Mod_go_72 : Dc mi_Mod_go 72 (.aload_n 0) 1 73 := ⟨by decide +kernel, rfl⟩
theorem dd_Mod_go_73 : Dc mi_Mod_go 73 (.getfield 121) 3 76 := ⟨by decide +kernel, rfl⟩
theorem dd_Mod_go_76 : Dc mi_Mod_go 76 (.aload_n 0) 1 77 := ⟨by decide +kernel, rfl⟩
theorem dd_Mod_go_77 : Dc mi_Mod_go 77 (.getfield 118) 3 80 := ⟨by decide +kernel, rfl⟩
theorem dd_Mod_go_80 : Db mi_Mod_go 80 (.if_icmp .ge 7) 7 83 87 := ⟨by decide +kernel, rfl, rfl⟩
theorem dd_Mod_go_83 : Dc mi_Mod_go 83 (.iconst 1) 1 84 := ⟨by decide +kernel, rfl⟩
theorem dd_Mod_go_84 : Db mi_Mod_go 84 (.goto 4) 4 87 88 := ⟨by decide +kernel, rfl, rfl⟩
theorem dd_Mod_go_87 : Dc mi_Mod_go 87 (.iconst 0) 1 88 := ⟨by decide +kernel, rfl⟩
theorem dd_Mod_go_88 : Dc mi_Mod_go 88 (.istore_n 3) 1 89 := ⟨by decide +kernel, rfl⟩
theorem dd_Mod_go_89 : Dc mi_Mod_go 89 (.iload_n 3) 1 90 := ⟨by decide +kernel, rfl⟩
theorem dd_Mod_go_90 : Db mi_Mod_go 90 (.ifCond .eq (-71)) (-71) 93 19 := ⟨by decide +kernel, rfl, rfl⟩
theorem dd_Mod_go_93 : Dc mi_Mod_go 93 (.aload_n 0) 1 94 := ⟨by decide +kernel, rfl⟩
theorem dd_Mod_go_94 : Dc mi_Mod_go 94 (.bipush 44) 2 96 := ⟨by decide +kernel, rfl⟩
theorem dd_Mod_go_96 : Dc mi_Mod_go 96 (.bipush 44) 2 98 := ⟨by decide +kernel, rfl⟩
theorem dd_Mod_go_98 : Dc mi_Mod_go 98 (.invokevirtual 128) 3 101 := ⟨by decide +kernel, rfl⟩
theorem dd_Mod_go_101 : Dc mi_Mod_go 101 (.istore 4) 2 103 := ⟨by decide +kernel, rfl⟩
theorem dd_Mod_go_103 : Dc mi_Mod_go 103 (.aload_n 0) 1 104 := ⟨by decide +kernel, rfl⟩
theorem dd_Mod_go_104 : Dc mi_Mod_go 104 (.getfield 124) 3 107 := ⟨by decide +kernel, rfl⟩
theorem dd_Mod_go_107 : Db mi_Mod_go 107 (.ifCond .ne 7) 7 110 114 := ⟨by decide +kernel, rfl, rfl⟩
theorem dd_Mod_go_110 : Dc mi_Mod_go 110 (.iconst 1) 1 111 := ⟨by decide +kernel, rfl⟩
theorem dd_Mod_go_111 : Db mi_Mod_go 111 (.goto 4) 4 114 115 := ⟨by decide +kernel, rfl, rfl⟩
theorem dd_Mod_go_114 : Dc mi_Mod_go 114 (.iconst 0) 1 115 := ⟨by decide +kernel, rfl⟩
theorem dd_Mod_go_115 : Dc mi_Mod_go 115 (.istore_n 3) 1 116 := ⟨by decide +kernel, rfl⟩
theorem dd_Mod_go_116 : Db mi_Mod_go 116 (.goto (-97)) (-97) 119 19 := ⟨by decide +kernel, rfl, rfl⟩
theorem dd_Mod_go_119 : Dc mi_Mod_go 119 (.iload_n 2) 1 120 := ⟨by decide +kernel, rfl⟩
theorem dd_Mod_go_120 : decode (mbc mi_Mod_go) 120 = .ok (retI (mrt mi_Mod_go), 1) := by decide +kernel
theorem dd_Mod_read_0 : Dc mi_Mod_read 0 (.aload_n 0) 1 1 := ⟨by decide +kernel, rfl⟩
theorem dd_Mod_read_1 : Dc mi_Mod_read 1 (.getfield 121) 3 4 := ⟨by decide +kernel, rfl⟩
theorem dd_Mod_read_4 : Dc mi_Mod_read 4 (.aload_n 0) 1 5 := ⟨by decide +kernel, rfl⟩
theorem dd_Mod_read_5 : Dc mi_Mod_read 5 (.getfield 118) 3 8 := ⟨by decide +kernel, rfl⟩
theorem dd_Mod_read_8 : Db mi_Mod_read 8 (.if_icmp .ge 15) 15 11 23 := ⟨by decide +kernel, rfl, rfl⟩
theorem dd_Mod_read_11 : Dc mi_Mod_read 11 (.aload_n 0) 1 12 := ⟨by decide +kernel, rfl⟩
theorem dd_Mod_read_12 : Dc mi_Mod_read 12 (.getfield 25) 3 15 := ⟨by decide +kernel, rfl⟩
theorem dd_Mod_read_15 : Dc mi_Mod_read 15 (.aload_n 0) 1 16 := ⟨by decide +kernel, rfl⟩
theorem dd_Mod_read_16 : Dc mi_Mod_read 16 (.getfield 121) 3 19 := ⟨by decide +kernel, rfl⟩
theorem dd_Mod_read_19 : Dc mi_Mod_read 19 (.iaload) 1 20 := ⟨by decide +kernel, rfl⟩
theorem dd_Mod_read_20 : Db mi_Mod_read 20 (.goto 4) 4 23 24 := ⟨by decide +kernel, rfl, rfl⟩
theorem dd_Mod_read_23 : Dc mi_Mod_read 23 (.iconst 0) 1 24 := ⟨by decide +kernel, rfl⟩
theorem dd_Mod_read_24 : Dc mi_Mod_read 24 (.istore_n 1) 1 25 := ⟨by decide +kernel, rfl⟩
theorem dd_Mod_read_25 : Dc mi_Mod_read 25 (.aload_n 0) 1 26 := ⟨by decide +kernel, rfl⟩
theorem dd_Mod_read_26 : Dc mi_Mod_read 26 (.aload_n 0) 1 27 := ⟨by decide +kernel, rfl⟩
theorem dd_Mod_read_27 : Dc mi_Mod_read 27 (.getfield 124) 3 30 := ⟨by decide +kernel, rfl⟩
theorem dd_Mod_read_30 : Db mi_Mod_read 30 (.ifCond .ne 33) 33 33 63 := ⟨by decide +kernel, rfl, rfl⟩
theorem dd_Mod_read_33 : Dc mi_Mod_read 33 (.iload_n 1) 1 34 := ⟨by decide +kernel, rfl⟩
theorem dd_Mod_read_34 : Dc mi_Mod_read 34 (.bipush 97) 2 36 := ⟨by decide +kernel, rfl⟩
theorem dd_Mod_read_36 : Db mi_Mod_read 36 (.if_icmp .eq 31) 31 39 67 := ⟨by decide +kernel, rfl, rfl⟩
theorem dd_Mod_read_39 : Dc mi_Mod_read 39 (.iload_n 1) 1 40 := ⟨by decide +kernel, rfl⟩
theorem dd_Mod_read_40 : Dc mi_Mod_read 40 (.bipush 102) 2 42 := ⟨by decide +kernel, rfl⟩
theorem dd_Mod_read_42 : Db mi_Mod_read 42 (.if_icmp .eq 25) 25 45 67 := ⟨by decide +kernel, rfl, rfl⟩
theorem dd_Mod_read_45 : Dc mi_Mod_read 45 (.iload_n 1) 1 46 := ⟨by decide +kernel, rfl⟩
theorem dd_Mod_read_46 : Dc mi_Mod_read 46 (.bipush 116) 2 48 := ⟨by decide +kernel, rfl⟩
theorem dd_Mod_read_48 : Db mi_Mod_read 48 (.if_icmp .eq 19) 19 51 67 := ⟨by decide +kernel, rfl, rfl⟩
theorem dd_Mod_read_51 : Dc mi_Mod_read 51 (.iload_n 1) 1 52 := ⟨by decide +kernel, rfl⟩
theorem dd_Mod_read_52 : Dc mi_Mod_read 52 (.bipush 101) 2 54 := ⟨by decide +kernel, rfl⟩
theorem dd_Mod_read_54 : Db mi_Mod_read 54 (.if_icmp .eq 13) 13 57 67 := ⟨by decide +kernel, rfl, rfl⟩
theorem dd_Mod_read_57 : Dc mi_Mod_read 57 (.iload_n 1) 1 58 := ⟨by decide +kernel, rfl⟩
theorem dd_Mod_read_58 : Dc mi_Mod_read 58 (.bipush 115) 2 60 := ⟨by decide +kernel, rfl⟩
theorem dd_Mod_read_60 : Db mi_Mod_read 60 (.if_icmp .eq 7) 7 63 67 := ⟨by decide +kernel, rfl, rfl⟩
theorem dd_Mod_read_63 : Dc mi_Mod_read 63 (.iconst 1) 1 64 := ⟨by decide +kernel, rfl⟩
theorem dd_Mod_read_64 : Db mi_Mod_read 64 (.goto 4) 4 67 68 := ⟨by decide +kernel, rfl, rfl⟩
theorem dd_Mod_read_67 : Dc mi_Mod_read 67 (.iconst 0) 1 68 := ⟨by decide +kernel, rfl⟩
theorem dd_Mod_read_68 : Dc mi_Mod_read 68 (.putfield 124) 3 71 := ⟨by decide +kernel, rfl⟩
theorem dd_Mod_read_71 : Dc mi_Mod_read 71 (.aload_n 0) 1 72 := ⟨by decide +kernel, rfl⟩
theorem dd_Mod_read_72 : Dc mi_Mod_read 72 (.dup) 1 73 := ⟨by decide +kernel, rfl⟩
theorem dd_Mod_read_73 : Dc mi_Mod_read 73 (.getfield 121) 3 76 := ⟨by decide +kernel, rfl⟩
theorem dd_Mod_read_76 : Dc mi_Mod_read 76 (.aload_n 0) 1 77 := ⟨by decide +kernel, rfl⟩
theorem dd_Mod_read_77 : Dc mi_Mod_read 77 (.getfield 124) 3 80 := ⟨by decide +kernel, rfl⟩
theorem dd_Mod_read_80 : Db mi_Mod_read 80 (.ifCond .eq 7) 7 83 87 := ⟨by decide +kernel, rfl, rfl⟩
theorem dd_Mod_read_83 : Dc mi_Mod_read 83 (.iconst 0) 1 84 := ⟨by decide +kernel, rfl⟩
theorem dd_Mod_read_84 : Db mi_Mod_read 84 (.goto 4) 4 87 88 := ⟨by decide +kernel, rfl, rfl⟩
theorem dd_Mod_read_87 : Dc mi_Mod_read 87 (.iconst 1) 1 88 := ⟨by decide +kernel, rfl⟩
theorem dd_Mod_read_88 : Dc mi_Mod_read 88 (.iadd) 1 89 := ⟨by decide +kernel, rfl⟩
theorem dd_Mod_read_89 : Dc mi_Mod_read 89 (.putfield 121) 3 92 := ⟨by decide +kernel, rfl⟩
theorem dd_Mod_read_92 : Dc mi_Mod_read 92 (.aload_n 0) 1 93 := ⟨by decide +kernel, rfl⟩
theorem dd_Mod_read_93 : Dc mi_Mod_read 93 (.iload_n 1) 1 94 := ⟨by decide +kernel, rfl⟩
theorem dd_Mod_read_94 : Dc mi_Mod_read 94 (.putfield 131) 3 97 := ⟨by decide +kernel, rfl⟩
theorem dd_Mod_read_97 : Dc mi_Mod_read 97 (.aload_n 0) 1 98 := ⟨by decide +kernel, rfl⟩
theorem dd_Mod_read_98 : Dc mi_Mod_read 98 (.iload_n 1) 1 99 := ⟨by decide +kernel, rfl⟩
theorem dd_Mod_read_99 : Dc mi_Mod_read 99 (.bipush 116) 2 101 := ⟨by decide +kernel, rfl⟩
theorem dd_Mod_read_101 : Db mi_Mod_read 101 (.if_icmp .ne 14) 14 104 115 := ⟨by decide +kernel, rfl, rfl⟩
theorem dd_Mod_read_104 : Dc mi_Mod_read 104 (.aload_n 0) 1 105 := ⟨by decide +kernel, rfl⟩
theorem dd_Mod_read_105 : Dc mi_Mod_read 105 (.iconst 1) 1 106 := ⟨by decide +kernel, rfl⟩
theorem dd_Mod_read_106 : Dc mi_Mod_read 106 (.sipush 500) 3 109 := ⟨by decide +kernel, rfl⟩
theorem dd_Mod_read_109 : Dc mi_Mod_read 109 (.invokevirtual 134) 3 112 := ⟨by decide +kernel, rfl⟩
theorem dd_Mod_read_112 : Db mi_Mod_read 112 (.goto 24) 24 115 136 := ⟨by decide +kernel, rfl, rfl⟩
theorem dd_Mod_read_115 : Dc mi_Mod_read 115 (.iload_n 1) 1 116 := ⟨by decide +kernel, rfl⟩
theorem dd_Mod_read_116 : Dc mi_Mod_read 116 (.bipush 115) 2 118 := ⟨by decide +kernel, rfl⟩
theorem dd_Mod_read_118 : Db mi_Mod_read 118 (.if_icmp .ne 7) 7 121 125 := ⟨by decide +kernel, rfl, rfl⟩
theorem dd_Mod_read_121 : Dc mi_Mod_read 121 (.iconst 0) 1 122 := ⟨by decide +kernel, rfl⟩
theorem dd_Mod_read_122 : Db mi_Mod_read 122 (.goto 14) 14 125 136 := ⟨by decide +kernel, rfl, rfl⟩
theorem dd_Mod_read_125 : Dc mi_Mod_read 125 (.aload_n 0) 1 126 := ⟨by decide +kernel, rfl⟩
theorem dd_Mod_read_126 : Dc mi_Mod_read 126 (.bipush 48) 2 128 := ⟨by decide +kernel, rfl⟩
theorem dd_Mod_read_128 : Dc mi_Mod_read 128 (.bipush 53) 2 130 := ⟨by decide +kernel, rfl⟩
theorem dd_Mod_read_130 : Dc mi_Mod_read 130 (.invokevirtual 128) 3 133 := ⟨by decide +kernel, rfl⟩
theorem dd_Mod_read_133 : Dc mi_Mod_read 133 (.bipush 48) 2 135 := ⟨by decide +kernel, rfl⟩
theorem dd_Mod_read_135 : Dc mi_Mod_read 135 (.isub) 1 136 := ⟨by decide +kernel, rfl⟩
theorem dd_Mod_read_136 : Dc mi_Mod_read 136 (.putfield 137) 3 139 := ⟨by decide +kernel, rfl⟩
theorem dd_Mod_read_139 : Dc mi_Mod_read 139 (.iload_n 1) 1 140 := ⟨by decide +kernel, rfl⟩
theorem dd_Mod_read_140 : Dc mi_Mod_read 140 (.bipush 97) 2 142 := ⟨by decide +kernel, rfl⟩
theorem dd_Mod_read_142 : Db mi_Mod_read 142 (.if_icmp .eq 9) 9 145 151 := ⟨by decide +kernel, rfl, rfl⟩
theorem dd_Mod_read_145 : Dc mi_Mod_read 145 (.iload_n 1) 1 146 := ⟨by decide +kernel, rfl⟩
theorem dd_Mod_read_146 : Dc mi_Mod_read 146 (.bipush 102) 2 148 := ⟨by decide +kernel, rfl⟩
theorem dd_Mod_read_148 : Db mi_Mod_read 148 (.if_icmp .ne 7) 7 151 155 := ⟨by decide +kernel, rfl, rfl⟩
theorem dd_Mod_read_151 : Dc mi_Mod_read 151 (.iconst 1) 1 152 := ⟨by decide +kernel, rfl⟩
theorem dd_Mod_read_152 : Db mi_Mod_read 152 (.goto 4) 4 155 156 := ⟨by decide +kernel, rfl, rfl⟩
theorem dd_Mod_read_155 : Dc mi_Mod_read 155 (.iconst 0) 1 156 := ⟨by decide +kernel, rfl⟩
theorem dd_Mod_read_156 : Dc mi_Mod_read 156 (.istore_n 2) 1 157 := ⟨by decide +kernel, rfl⟩
theorem dd_Mod_read_157 : Dc mi_Mod_read 157 (.iload_n 2) 1 158 := ⟨by decide +kernel, rfl⟩
theorem dd_Mod_read_158 : Db mi_Mod_read 158 (.ifCond .eq 14) 14 161 172 := ⟨by decide +kernel, rfl, rfl⟩
theorem dd_Mod_read_161 : Dc mi_Mod_read 161 (.aload_n 0) 1 162 := ⟨by decide +kernel, rfl⟩
theorem dd_Mod_read_162 : Dc mi_Mod_read 162 (.bipush 58) 2 164 := ⟨by decide +kernel, rfl⟩
theorem dd_Mod_read_164 : Dc mi_Mod_read 164 (.bipush 58) 2 166 := ⟨by decide +kernel, rfl⟩
theorem dd_Mod_read_166 : Dc mi_Mod_read 166 (.invokevirtual 128) 3 169 := ⟨by decide +kernel, rfl⟩
theorem dd_Mod_read_169 : Db mi_Mod_read 169 (.goto 4) 4 172 173 := ⟨by decide +kernel, rfl, rfl⟩
theorem dd_Mod_read_172 : Dc mi_Mod_read 172 (.iconst 0) 1 173 := ⟨by decide +kernel, rfl⟩
theorem dd_Mod_read_173 : Dc mi_Mod_read 173 (.istore_n 3) 1 174 := ⟨by decide +kernel, rfl⟩
theorem dd_Mod_read_174 : Dc mi_Mod_read 174 (.aload_n 0) 1 175 := ⟨by decide +kernel, rfl⟩
theorem dd_Mod_read_175 : Dc mi_Mod_read 175 (.iload_n 2) 1 176 := ⟨by decide +kernel, rfl⟩
theorem dd_Mod_read_176 : Db mi_Mod_read 176 (.ifCond .ne 7) 7 179 183 := ⟨by decide +kernel, rfl, rfl⟩
theorem dd_Mod_read_179 : Dc mi_Mod_read 179 (.iconst 0) 1 180 := ⟨by decide +kernel, rfl⟩
theorem dd_Mod_read_180 : Db mi_Mod_read 180 (.goto 27) 27 183 207 := ⟨by decide +kernel, rfl, rfl⟩
theorem dd_Mod_read_183 : Dc mi_Mod_read 183 (.iload_n 1) 1 184 := ⟨by decide +kernel, rfl⟩
theorem dd_Mod_read_184 : Dc mi_Mod_read 184 (.bipush 97) 2 186 := ⟨by decide +kernel, rfl⟩
theorem dd_Mod_read_186 : Db mi_Mod_read 186 (.if_icmp .ne 13) 13 189 199 := ⟨by decide +kernel, rfl, rfl⟩
theorem dd_Mod_read_189 : Dc mi_Mod_read 189 (.aload_n 0) 1 190 := ⟨by decide +kernel, rfl⟩
theorem dd_Mod_read_190 : Dc mi_Mod_read 190 (.iconst 1) 1 191 := ⟨by decide +kernel, rfl⟩
theorem dd_Mod_read_191 : Dc mi_Mod_read 191 (.bipush 14) 2 193 := ⟨by decide +kernel, rfl⟩
theorem dd_Mod_read_193 : Dc mi_Mod_read 193 (.invokevirtual 134) 3 196 := ⟨by decide +kernel, rfl⟩
theorem dd_Mod_read_196 : Db mi_Mod_read 196 (.goto 11) 11 199 207 := ⟨by decide +kernel, rfl, rfl⟩
theorem dd_Mod_read_199 : Dc mi_Mod_read 199 (.aload_n 0) 1 200 := ⟨by decide +kernel, rfl⟩
theorem dd_Mod_read_200 : Dc mi_Mod_read 200 (.iconst 0) 1 201 := ⟨by decide +kernel, rfl⟩
theorem dd_Mod_read_201 : Dc mi_Mod_read 201 (.sipush 299) 3 204 := ⟨by decide +kernel, rfl⟩
theorem dd_Mod_read_204 : Dc mi_Mod_read 204 (.invokevirtual 134) 3 207 := ⟨by decide +kernel, rfl⟩
theorem dd_Mod_read_207 : Dc mi_Mod_read 207 (.putfield 140) 3 210 := ⟨by decide +kernel, rfl⟩
theorem dd_Mod_read_210 : decode (mbc mi_Mod_read) 210 = .ok (retI (mrt mi_Mod_read), 1) := by decide +kernel
theorem dd_Mod_number_0 : Dc mi_Mod_number 0 (.aload_n 0) 1 1 := ⟨by decide +kernel, rfl⟩
theorem dd_Mod_number_1 : Dc mi_Mod_number 1 (.bipush 48) 2 3 := ⟨by decide +kernel, rfl⟩
theorem dd_Mod_number_3 : Dc mi_Mod_number 3 (.iload_n 1) 1 4 := ⟨by decide +kernel, rfl⟩
theorem dd_Mod_number_4 : Dc mi_Mod_number 4 (.iadd) 1 5 := ⟨by decide +kernel, rfl⟩
theorem dd_Mod_number_5 : Dc mi_Mod_number 5 (.bipush 57) 2 7 := ⟨by decide +kernel, rfl⟩
theorem dd_Mod_number_7 : Dc mi_Mod_number 7 (.invokevirtual 128) 3 10 := ⟨by decide +kernel, rfl⟩
theorem dd_Mod_number_10 : Dc mi_Mod_number 10 (.bipush 48) 2 12 := ⟨by decide +kernel, rfl⟩
theorem dd_Mod_number_12 : Dc mi_Mod_number 12 (.isub) 1 13 := ⟨by decide +kernel, rfl⟩
theorem dd_Mod_number_13 : Dc mi_Mod_number 13 (.istore_n 3) 1 14 := ⟨by decide +kernel, rfl⟩
theorem dd_Mod_number_14 : Dc mi_Mod_number 14 (.aload_n 0) 1 15 := ⟨by decide +kernel, rfl⟩
theorem dd_Mod_number_15 : Dc mi_Mod_number 15 (.getfield 124) 3 18 := ⟨by decide +kernel, rfl⟩
theorem dd_Mod_number_18 : Db mi_Mod_number 18 (.ifCond .ne 78) 78 21 96 := ⟨by decide +kernel, rfl, rfl⟩
theorem dd_Mod_number_21 : Dc mi_Mod_number 21 (.iload_n 3) 1 22 := ⟨by decide +kernel, rfl⟩
theorem dd_Mod_number_22 : Db mi_Mod_number 22 (.ifCond .le 74) 74 25 96 := ⟨by decide +kernel, rfl, rfl⟩
theorem dd_Mod_number_25 : Dc mi_Mod_number 25 (.aload_n 0) 1 26 := ⟨by decide +kernel, rfl⟩
theorem dd_Mod_number_26 : Dc mi_Mod_number 26 (.getfield 121) 3 29 := ⟨by decide +kernel, rfl⟩
theorem dd_Mod_number_29 : Dc mi_Mod_number 29 (.aload_n 0) 1 30 := ⟨by decide +kernel, rfl⟩
theorem dd_Mod_number_30 : Dc mi_Mod_number 30 (.getfield 118) 3 33 := ⟨by decide +kernel, rfl⟩
theorem dd_Mod_number_33 : Db mi_Mod_number 33 (.if_icmp .ge 63) 63 36 96 := ⟨by decide +kernel, rfl, rfl⟩
theorem dd_Mod_number_36 : Dc mi_Mod_number 36 (.aload_n 0) 1 37 := ⟨by decide +kernel, rfl⟩
theorem dd_Mod_number_37 : Dc mi_Mod_number 37 (.getfield 25) 3 40 := ⟨by decide +kernel, rfl⟩
theorem dd_Mod_number_40 : Dc mi_Mod_number 40 (.aload_n 0) 1 41 := ⟨by decide +kernel, rfl⟩
theorem dd_Mod_number_41 : Dc mi_Mod_number 41 (.getfield 121) 3 44 := ⟨by decide +kernel, rfl⟩
theorem dd_Mod_number_44 : Dc mi_Mod_number 44 (.iaload) 1 45 := ⟨by decide +kernel, rfl⟩
theorem dd_Mod_number_45 : Dc mi_Mod_number 45 (.bipush 48) 2 47 := ⟨by decide +kernel, rfl⟩
theorem dd_Mod_number_47 : Dc mi_Mod_number 47 (.bipush 57) 2 49 := ⟨by decide +kernel, rfl⟩
theorem dd_Mod_number_49 : Dc mi_Mod_number 49 (.invokestatic 35) 3 52 := ⟨by decide +kernel, rfl⟩
theorem dd_Mod_number_52 : Db mi_Mod_number 52 (.ifCond .eq 44) 44 55 96 := ⟨by decide +kernel, rfl, rfl⟩
theorem dd_Mod_number_55 : Dc mi_Mod_number 55 (.bipush 10) 2 57 := ⟨by decide +kernel, rfl⟩
theorem dd_Mod_number_57 : Dc mi_Mod_number 57 (.iload_n 3) 1 58 := ⟨by decide +kernel, rfl⟩
theorem dd_Mod_number_58 : Dc mi_Mod_number 58 (.imul) 1 59 := ⟨by decide +kernel, rfl⟩
theorem dd_Mod_number_59 : Dc mi_Mod_number 59 (.aload_n 0) 1 60 := ⟨by decide +kernel, rfl⟩
theorem dd_Mod_number_60 : Dc mi_Mod_number 60 (.getfield 25) 3 63 := ⟨by decide +kernel, rfl⟩
theorem dd_Mod_number_63 : Dc mi_Mod_number 63 (.aload_n 0) 1 64 := ⟨by decide +kernel, rfl⟩
theorem dd_Mod_number_64 : Dc mi_Mod_number 64 (.getfield 121) 3 67 := ⟨by decide +kernel, rfl⟩
theorem dd_Mod_number_67 : Dc mi_Mod_number 67 (.iaload) 1 68 := ⟨by decide +kernel, rfl⟩
theorem dd_Mod_number_68 : Dc mi_Mod_number 68 (.iadd) 1 69 := ⟨by decide +kernel, rfl⟩
theorem dd_Mod_number_69 : Dc mi_Mod_number 69 (.bipush 48) 2 71 := ⟨by decide +kernel, rfl⟩
theorem dd_Mod_number_71 : Dc mi_Mod_number 71 (.isub) 1 72 := ⟨by decide +kernel, rfl⟩
theorem dd_Mod_number_72 : Dc mi_Mod_number 72 (.iload_n 2) 1 73 := ⟨by decide +kernel, rfl⟩
theorem dd_Mod_number_73 : Db mi_Mod_number 73 (.if_icmp .gt 23) 23 76 96 := ⟨by decide +kernel, rfl, rfl⟩
theorem dd_Mod_number_76 : Dc mi_Mod_number 76 (.bipush 10) 2 78 := ⟨by decide +kernel, rfl⟩
theorem dd_Mod_number_78 : Dc mi_Mod_number 78 (.iload_n 3) 1 79 := ⟨by decide +kernel, rfl⟩
theorem dd_Mod_number_79 : Dc mi_Mod_number 79 (.imul) 1 80 := ⟨by decide +kernel, rfl⟩
theorem dd_Mod_number_80 : Dc mi_Mod_number 80 (.aload_n 0) 1 81 := ⟨by decide +kernel, rfl⟩
theorem dd_Mod_number_81 : Dc mi_Mod_number 81 (.bipush 48) 2 83 := ⟨by decide +kernel, rfl⟩
theorem dd_Mod_number_83 : Dc mi_Mod_number 83 (.bipush 57) 2 85 := ⟨by decide +kernel, rfl⟩
theorem dd_Mod_number_85 : Dc mi_Mod_number 85 (.invokevirtual 128) 3 88 := ⟨by decide +kernel, rfl⟩
theorem dd_Mod_number_88 : Dc mi_Mod_number 88 (.iadd) 1 89 := ⟨by decide +kernel, rfl⟩
theorem dd_Mod_number_89 : Dc mi_Mod_number 89 (.bipush 48) 2 91 := ⟨by decide +kernel, rfl⟩
theorem dd_Mod_number_91 : Dc mi_Mod_number 91 (.isub) 1 92 := ⟨by decide +kernel, rfl⟩
theorem dd_Mod_number_92 : Dc mi_Mod_number 92 (.istore_n 3) 1 93 := ⟨by decide +kernel, rfl⟩
theorem dd_Mod_number_93 : Db mi_Mod_number 93 (.goto (-79)) (-79) 96 14 := ⟨by decide +kernel, rfl, rfl⟩
theorem dd_Mod_number_96 : Dc mi_Mod_number 96 (.iload_n 3) 1 97 := ⟨by decide +kernel, rfl⟩
theorem dd_Mod_number_97 : decode (mbc mi_Mod_number) 97 = .ok (retI (mrt mi_Mod_number), 1) := by decide +kernel
theorem dd_Mod_sign_0 : Dc mi_Mod_sign 0 (.aload_n 0) 1 1 := ⟨by decide +kernel, rfl⟩
theorem dd_Mod_sign_1 : Dc mi_Mod_sign 1 (.getfield 121) 3 4 := ⟨by decide +kernel, rfl⟩
theorem dd_Mod_sign_4 : Dc mi_Mod_sign 4 (.aload_n 0) 1 5 := ⟨by decide +kernel, rfl⟩
theorem dd_Mod_sign_5 : Dc mi_Mod_sign 5 (.getfield 118) 3 8 := ⟨by decide +kernel, rfl⟩
theorem dd_Mod_sign_8 : Db mi_Mod_sign 8 (.if_icmp .ge 15) 15 11 23 := ⟨by decide +kernel, rfl, rfl⟩
theorem dd_Mod_sign_11 : Dc mi_Mod_sign 11 (.aload_n 0) 1 12 := ⟨by decide +kernel, rfl⟩
theorem dd_Mod_sign_12 : Dc mi_Mod_sign 12 (.getfield 25) 3 15 := ⟨by decide +kernel, rfl⟩
theorem dd_Mod_sign_15 : Dc mi_Mod_sign 15 (.aload_n 0) 1 16 := ⟨by decide +kernel, rfl⟩
theorem dd_Mod_sign_16 : Dc mi_Mod_sign 16 (.getfield 121) 3 19 := ⟨by decide +kernel, rfl⟩
theorem dd_Mod_sign_19 : Dc mi_Mod_sign 19 (.iaload) 1 20 := ⟨by decide +kernel, rfl⟩
theorem dd_Mod_sign_20 : Db mi_Mod_sign 20 (.goto 4) 4 23 24 := ⟨by decide +kernel, rfl, rfl⟩
theorem dd_Mod_sign_23 : Dc mi_Mod_sign 23 (.iconst 0) 1 24 := ⟨by decide +kernel, rfl⟩
theorem dd_Mod_sign_24 : Dc mi_Mod_sign 24 (.istore_n 3) 1 25 := ⟨by decide +kernel, rfl⟩
theorem dd_Mod_sign_25 : Dc mi_Mod_sign 25 (.aload_n 0) 1 26 := ⟨by decide +kernel, rfl⟩
theorem dd_Mod_sign_26 : Dc mi_Mod_sign 26 (.aload_n 0) 1 27 := ⟨by decide +kernel, rfl⟩
theorem dd_Mod_sign_27 : Dc mi_Mod_sign 27 (.getfield 124) 3 30 := ⟨by decide +kernel, rfl⟩
theorem dd_Mod_sign_30 : Db mi_Mod_sign 30 (.ifCond .ne 12) 12 33 42 := ⟨by decide +kernel, rfl, rfl⟩
theorem dd_Mod_sign_33 : Dc mi_Mod_sign 33 (.iload_n 3) 1 34 := ⟨by decide +kernel, rfl⟩
theorem dd_Mod_sign_34 : Dc mi_Mod_sign 34 (.iload_n 1) 1 35 := ⟨by decide +kernel, rfl⟩
theorem dd_Mod_sign_35 : Dc mi_Mod_sign 35 (.iload_n 2) 1 36 := ⟨by decide +kernel, rfl⟩
theorem dd_Mod_sign_36 : Dc mi_Mod_sign 36 (.invokestatic 35) 3 39 := ⟨by decide +kernel, rfl⟩
theorem dd_Mod_sign_39 : Db mi_Mod_sign 39 (.ifCond .ne 7) 7 42 46 := ⟨by decide +kernel, rfl, rfl⟩
theorem dd_Mod_sign_42 : Dc mi_Mod_sign 42 (.iconst 1) 1 43 := ⟨by decide +kernel, rfl⟩
theorem dd_Mod_sign_43 : Db mi_Mod_sign 43 (.goto 4) 4 46 47 := ⟨by decide +kernel, rfl, rfl⟩
theorem dd_Mod_sign_46 : Dc mi_Mod_sign 46 (.iconst 0) 1 47 := ⟨by decide +kernel, rfl⟩
theorem dd_Mod_sign_47 : Dc mi_Mod_sign 47 (.putfield 124) 3 50 := ⟨by decide +kernel, rfl⟩
theorem dd_Mod_sign_50 : Dc mi_Mod_sign 50 (.aload_n 0) 1 51 := ⟨by decide +kernel, rfl⟩
theorem dd_Mod_sign_51 : Dc mi_Mod_sign 51 (.dup) 1 52 := ⟨by decide +kernel, rfl⟩
theorem dd_Mod_sign_52 : Dc mi_Mod_sign 52 (.getfield 121) 3 55 := ⟨by decide +kernel, rfl⟩
theorem dd_Mod_sign_55 : Dc mi_Mod_sign 55 (.aload_n 0) 1 56 := ⟨by decide +kernel, rfl⟩
theorem dd_Mod_sign_56 : Dc mi_Mod_sign 56 (.getfield 124) 3 59 := ⟨by decide +kernel, rfl⟩
theorem dd_Mod_sign_59 : Db mi_Mod_sign 59 (.ifCond .eq 7) 7 62 66 := ⟨by decide +kernel, rfl, rfl⟩
theorem dd_Mod_sign_62 : Dc mi_Mod_sign 62 (.iconst 0) 1 63 := ⟨by decide +kernel, rfl⟩
theorem dd_Mod_sign_63 : Db mi_Mod_sign 63 (.goto 4) 4 66 67 := ⟨by decide +kernel, rfl, rfl⟩
theorem dd_Mod_sign_66 : Dc mi_Mod_sign 66 (.iconst 1) 1 67 := ⟨by decide +kernel, rfl⟩
theorem dd_Mod_sign_67 : Dc mi_Mod_sign 67 (.iadd) 1 68 := ⟨by decide +kernel, rfl⟩
theorem dd_Mod_sign_68 : Dc mi_Mod_sign 68 (.putfield 121) 3 71 := ⟨by decide +kernel, rfl⟩
theorem dd_Mod_sign_71 : Dc mi_Mod_sign 71 (.iload_n 3) 1 72 := ⟨by decide +kernel, rfl⟩
theorem dd_Mod_sign_72 : decode (mbc mi_Mod_sign) 72 = .ok (retI (mrt mi_Mod_sign), 1) := by decide +kernel
theorem dd_Mod_does_0 : Dc mi_Mod_does 0 (.aload_n 0) 1 1 := ⟨by decide +kernel, rfl⟩
theorem dd_Mod_does_1 : Dc mi_Mod_does 1 (.getfield 131) 3 4 := ⟨by decide +kernel, rfl⟩
theorem dd_Mod_does_4 : Dc mi_Mod_does 4 (.istore_n 1) 1 5 := ⟨by decide +kernel, rfl⟩
theorem dd_Mod_does_5 : Dc mi_Mod_does 5 (.iload_n 1) 1 6 := ⟨by decide +kernel, rfl⟩
theorem dd_Mod_does_6 : Dc mi_Mod_does 6 (.bipush 97) 2 8 := ⟨by decide +kernel, rfl⟩
theorem dd_Mod_does_8 : Db mi_Mod_does 8 (.if_icmp .ne 18) 18 11 26 := ⟨by decide +kernel, rfl, rfl⟩
theorem dd_Mod_does_11 : Dc mi_Mod_does 11 (.aload_n 0) 1 12 := ⟨by decide +kernel, rfl⟩
theorem dd_Mod_does_12 : Dc mi_Mod_does 12 (.aload_n 0) 1 13 := ⟨by decide +kernel, rfl⟩
theorem dd_Mod_does_13 : Dc mi_Mod_does 13 (.getfield 137) 3 16 := ⟨by decide +kernel, rfl⟩
theorem dd_Mod_does_16 : Dc mi_Mod_does 16 (.aload_n 0) 1 17 := ⟨by decide +kernel, rfl⟩
theorem dd_Mod_does_17 : Dc mi_Mod_does 17 (.getfield 140) 3 20 := ⟨by decide +kernel, rfl⟩
theorem dd_Mod_does_20 : Dc mi_Mod_does 20 (.invokevirtual 87) 3 23 := ⟨by decide +kernel, rfl⟩
theorem dd_Mod_does_23 : Db mi_Mod_does 23 (.goto 42) 42 26 65 := ⟨by decide +kernel, rfl, rfl⟩
theorem dd_Mod_does_26 : Dc mi_Mod_does 26 (.iload_n 1) 1 27 := ⟨by decide +kernel, rfl⟩
theorem dd_Mod_does_27 : Dc mi_Mod_does 27 (.bipush 102) 2 29 := ⟨by decide +kernel, rfl⟩
theorem dd_Mod_does_29 : Db mi_Mod_does 29 (.if_icmp .ne 18) 18 32 47 := ⟨by decide +kernel, rfl, rfl⟩
theorem dd_Mod_does_32 : Dc mi_Mod_does 32 (.aload_n 0) 1 33 := ⟨by decide +kernel, rfl⟩
theorem dd_Mod_does_33 : Dc mi_Mod_does 33 (.aload_n 0) 1 34 := ⟨by decide +kernel, rfl⟩
theorem dd_Mod_does_34 : Dc mi_Mod_does 34 (.getfield 137) 3 37 := ⟨by decide +kernel, rfl⟩
theorem dd_Mod_does_37 : Dc mi_Mod_does 37 (.aload_n 0) 1 38 := ⟨by decide +kernel, rfl⟩
theorem dd_Mod_does_38 : Dc mi_Mod_does 38 (.getfield 140) 3 41 := ⟨by decide +kernel, rfl⟩
theorem dd_Mod_does_41 : Dc mi_Mod_does 41 (.invokevirtual 96) 3 44 := ⟨by decide +kernel, rfl⟩
theorem dd_Mod_does_44 : Db mi_Mod_does 44 (.goto 21) 21 47 65 := ⟨by decide +kernel, rfl, rfl⟩
theorem dd_Mod_does_47 : Dc mi_Mod_does 47 (.iload_n 1) 1 48 := ⟨by decide +kernel, rfl⟩
theorem dd_Mod_does_48 : Dc mi_Mod_does 48 (.bipush 116) 2 50 := ⟨by decide +kernel, rfl⟩
theorem dd_Mod_does_50 : Db mi_Mod_does 50 (.if_icmp .ne 14) 14 53 64 := ⟨by decide +kernel, rfl, rfl⟩
theorem dd_Mod_does_53 : Dc mi_Mod_does 53 (.aload_n 0) 1 54 := ⟨by decide +kernel, rfl⟩
theorem dd_Mod_does_54 : Dc mi_Mod_does 54 (.aload_n 0) 1 55 := ⟨by decide +kernel, rfl⟩
theorem dd_Mod_does_55 : Dc mi_Mod_does 55 (.getfield 137) 3 58 := ⟨by decide +kernel, rfl⟩
theorem dd_Mod_does_58 : Dc mi_Mod_does 58 (.invokevirtual 108) 3 61 := ⟨by decide +kernel, rfl⟩
theorem dd_Mod_does_61 : Db mi_Mod_does 61 (.goto 4) 4 64 65 := ⟨by decide +kernel, rfl, rfl⟩
theorem dd_Mod_does_64 : Dc mi_Mod_does 64 (.iconst 0) 1 65 := ⟨by decide +kernel, rfl⟩
theorem dd_Mod_does_65 : Dc mi_Mod_does 65 (.istore_n 2) 1 66 := ⟨by decide +kernel, rfl⟩
theorem dd_Mod_does_66 : Dc mi_Mod_does 66 (.iload_n 2) 1 67 := ⟨by decide +kernel, rfl⟩
theorem dd_Mod_does_67 : Db mi_Mod_does 67 (.ifCond .ge 5) 5 70 72 := ⟨by decide +kernel, rfl, rfl⟩
theorem dd_Mod_does_70 : Dc mi_Mod_does 70 (.iload_n 2) 1 71 := ⟨by decide +kernel, rfl⟩
theorem dd_Mod_does_71 : decode (mbc mi_Mod_does) 71 = .ok (retI (mrt mi_Mod_does), 1) := by decide +kernel
theorem dd_Mod_does_72 : Dc mi_Mod_does 72 (.iload_n 1) 1 73 := ⟨by decide +kernel, rfl⟩
theorem dd_Mod_does_73 : Dc mi_Mod_does 73 (.bipush 97) 2 75 := ⟨by decide +kernel, rfl⟩
theorem dd_Mod_does_75 : Db mi_Mod_does 75 (.if_icmp .ne 18) 18 78 93 := ⟨by decide +kernel, rfl, rfl⟩
theorem dd_Mod_does_78 : Dc mi_Mod_does 78 (.aload_n 0) 1 79 := ⟨by decide +kernel, rfl⟩
theorem dd_Mod_does_79 : Dc mi_Mod_does 79 (.aload_n 0) 1 80 := ⟨by decide +kernel, rfl⟩
theorem dd_Mod_does_80 : Dc mi_Mod_does 80 (.getfield 137) 3 83 := ⟨by decide +kernel, rfl⟩
theorem dd_Mod_does_83 : Dc mi_Mod_does 83 (.aload_n 0) 1 84 := ⟨by decide +kernel, rfl⟩
theorem dd_Mod_does_84 : Dc mi_Mod_does 84 (.getfield 140) 3 87 := ⟨by decide +kernel, rfl⟩
theorem dd_Mod_does_87 : Dc mi_Mod_does 87 (.invokevirtual 93) 3 90 := ⟨by decide +kernel, rfl⟩
theorem dd_Mod_does_90 : Db mi_Mod_does 90 (.goto 67) 67 93 157 := ⟨by decide +kernel, rfl, rfl⟩
theorem dd_Mod_does_93 : Dc mi_Mod_does 93 (.iload_n 1) 1 94 := ⟨by decide +kernel, rfl⟩
theorem dd_Mod_does_94 : Dc mi_Mod_does 94 (.bipush 102) 2 96 := ⟨by decide +kernel, rfl⟩
theorem dd_Mod_does_96 : Db mi_Mod_does 96 (.if_icmp .ne 18) 18 99 114 := ⟨by decide +kernel, rfl, rfl⟩
theorem dd_Mod_does_99 : Dc mi_Mod_does 99 (.aload_n 0) 1 100 := ⟨by decide +kernel, rfl⟩
theorem dd_Mod_does_100 : Dc mi_Mod_does 100 (.aload_n 0) 1 101 := ⟨by decide +kernel, rfl⟩
theorem dd_Mod_does_101 : Dc mi_Mod_does 101 (.aload_n 0) 1 102 := ⟨by decide +kernel, rfl⟩
theorem dd_Mod_does_102 : Dc mi_Mod_does 102 (.getfield 140) 3 105 := ⟨by decide +kernel, rfl⟩
theorem dd_Mod_does_105 : Dc mi_Mod_does 105 (.invokevirtual 78) 3 108 := ⟨by decide +kernel, rfl⟩
theorem dd_Mod_does_108 : Dc mi_Mod_does 108 (.invokevirtual 84) 3 111 := ⟨by decide +kernel, rfl⟩
theorem dd_Mod_does_111 : Db mi_Mod_does 111 (.goto 46) 46 114 157 := ⟨by decide +kernel, rfl, rfl⟩
theorem dd_Mod_does_114 : Dc mi_Mod_does 114 (.iload_n 1) 1 115 := ⟨by decide +kernel, rfl⟩
theorem dd_Mod_does_115 : Dc mi_Mod_does 115 (.bipush 116) 2 117 := ⟨by decide +kernel, rfl⟩
theorem dd_Mod_does_117 : Db mi_Mod_does 117 (.if_icmp .ne 14) 14 120 131 := ⟨by decide +kernel, rfl, rfl⟩
theorem dd_Mod_does_120 : Dc mi_Mod_does 120 (.aload_n 0) 1 121 := ⟨by decide +kernel, rfl⟩
theorem dd_Mod_does_121 : Dc mi_Mod_does 121 (.aload_n 0) 1 122 := ⟨by decide +kernel, rfl⟩
theorem dd_Mod_does_122 : Dc mi_Mod_does 122 (.getfield 137) 3 125 := ⟨by decide +kernel, rfl⟩
theorem dd_Mod_does_125 : Dc mi_Mod_does 125 (.invokevirtual 111) 3 128 := ⟨by decide +kernel, rfl⟩
theorem dd_Mod_does_128 : Db mi_Mod_does 128 (.goto 29) 29 131 157 := ⟨by decide +kernel, rfl, rfl⟩
theorem dd_Mod_does_131 : Dc mi_Mod_does 131 (.iload_n 1) 1 132 := ⟨by decide +kernel, rfl⟩
theorem dd_Mod_does_132 : Dc mi_Mod_does 132 (.bipush 101) 2 134 := ⟨by decide +kernel, rfl⟩
theorem dd_Mod_does_134 : Db mi_Mod_does 134 (.if_icmp .ne 19) 19 137 153 := ⟨by decide +kernel, rfl, rfl⟩
theorem dd_Mod_does_137 : Dc mi_Mod_does 137 (.aload_n 0) 1 138 := ⟨by decide +kernel, rfl⟩
theorem dd_Mod_does_138 : Dc mi_Mod_does 138 (.sipush 448) 3 141 := ⟨by decide +kernel, rfl⟩
theorem dd_Mod_does_141 : Dc mi_Mod_does 141 (.aload_n 0) 1 142 := ⟨by decide +kernel, rfl⟩
theorem dd_Mod_does_142 : Dc mi_Mod_does 142 (.getfield 137) 3 145 := ⟨by decide +kernel, rfl⟩
theorem dd_Mod_does_145 : Dc mi_Mod_does 145 (.iadd) 1 146 := ⟨by decide +kernel, rfl⟩
theorem dd_Mod_does_146 : Dc mi_Mod_does 146 (.iconst 1) 1 147 := ⟨by decide +kernel, rfl⟩
theorem dd_Mod_does_147 : Dc mi_Mod_does 147 (.invokevirtual 102) 3 150 := ⟨by decide +kernel, rfl⟩
theorem dd_Mod_does_150 : Db mi_Mod_does 150 (.goto 7) 7 153 157 := ⟨by decide +kernel, rfl, rfl⟩
theorem dd_Mod_does_153 : Dc mi_Mod_does 153 (.aload_n 0) 1 154 := ⟨by decide +kernel, rfl⟩
theorem dd_Mod_does_154 : Dc mi_Mod_does 154 (.invokevirtual 114) 3 157 := ⟨by decide +kernel, rfl⟩
theorem dd_Mod_does_157 : Dc mi_Mod_does 157 (.istore_n 3) 1 158 := ⟨by decide +kernel, rfl⟩
theorem dd_Mod_does_158 : Dc mi_Mod_does 158 (.iconst 0) 1 159 := ⟨by decide +kernel, rfl⟩
theorem dd_Mod_does_159 : decode (mbc mi_Mod_does) 159 = .ok (retI (mrt mi_Mod_does), 1) := by decide +kernel
theorem dd_Mod_putAside_0 : Dc mi_Mod_putAside 0 (.iconst 0) 1 1 := ⟨by decide +kernel, rfl⟩
theorem dd_Mod_putAside_1 : Dc mi_Mod_putAside 1 (.istore_n 1) 1 2 := ⟨by decide +kernel, rfl⟩
theorem dd_Mod_putAside_2 : Dc mi_Mod_putAside 2 (.iload_n 1) 1 3 := ⟨by decide +kernel, rfl⟩
theorem dd_Mod_putAside_3 : Dc mi_Mod_putAside 3 (.sipush 472) 3 6 := ⟨by decide +kernel, rfl⟩
theorem dd_Mod_putAside_6 : Db mi_Mod_putAside 6 (.if_icmp .ge 21) 21 9 27 := ⟨by decide +kernel, rfl, rfl⟩
theorem dd_Mod_putAside_9 : Dc mi_Mod_putAside 9 (.aload_n 0) 1 10 := ⟨by decide +kernel, rfl⟩
theorem dd_Mod_putAside_10 : Dc mi_Mod_putAside 10 (.getfield 13) 3 13 := ⟨by decide +kernel, rfl⟩
theorem dd_Mod_putAside_13 : Dc mi_Mod_putAside 13 (.iload_n 1) 1 14 := ⟨by decide +kernel, rfl⟩
theorem dd_Mod_putAside_14 : Dc mi_Mod_putAside 14 (.aload_n 0) 1 15 := ⟨by decide +kernel, rfl⟩
theorem dd_Mod_putAside_15 : Dc mi_Mod_putAside 15 (.getfield 7) 3 18 := ⟨by decide +kernel, rfl⟩
theorem dd_Mod_putAside_18 : Dc mi_Mod_putAside 18 (.iload_n 1) 1 19 := ⟨by decide +kernel, rfl⟩
theorem dd_Mod_putAside_19 : Dc mi_Mod_putAside 19 (.iaload) 1 20 := ⟨by decide +kernel, rfl⟩
theorem dd_Mod_putAside_20 : Dc mi_Mod_putAside 20 (.iastore) 1 21 := ⟨by decide +kernel, rfl⟩
theorem dd_Mod_putAside_21 : Dc mi_Mod_putAside 21 (.iinc 1 1) 3 24 := ⟨by decide +kernel, rfl⟩
theorem dd_Mod_putAside_24 : Db mi_Mod_putAside 24 (.goto (-22)) (-22) 27 2 := ⟨by decide +kernel, rfl, rfl⟩
theorem dd_Mod_putAside_27 : decode (mbc mi_Mod_putAside) 27 = .ok (retI (mrt mi_Mod_putAside), 1) := by decide +kernel
theorem dd_Mod_putBack_0 : Dc mi_Mod_putBack 0 (.iconst 0) 1 1 := ⟨by decide +kernel, rfl⟩
theorem dd_Mod_putBack_1 : Dc mi_Mod_putBack 1 (.istore_n 1) 1 2 := ⟨by decide +kernel, rfl⟩
theorem dd_Mod_putBack_2 : Dc mi_Mod_putBack 2 (.iload_n 1) 1 3 := ⟨by decide +kernel, rfl⟩
theorem dd_Mod_putBack_3 : Dc mi_Mod_putBack 3 (.sipush 472) 3 6 := ⟨by decide +kernel, rfl⟩
theorem dd_Mod_putBack_6 : Db mi_Mod_putBack 6 (.if_icmp .ge 21) 21 9 27 := ⟨by decide +kernel, rfl, rfl⟩
theorem dd_Mod_putBack_9 : Dc mi_Mod_putBack 9 (.aload_n 0) 1 10 := ⟨by decide +kernel, rfl⟩
theorem dd_Mod_putBack_10 : Dc mi_Mod_putBack 10 (.getfield 7) 3 13 := ⟨by decide +kernel, rfl⟩
theorem dd_Mod_putBack_13 : Dc mi_Mod_putBack 13 (.iload_n 1) 1 14 := ⟨by decide +kernel, rfl⟩
theorem dd_Mod_putBack_14 : Dc mi_Mod_putBack 14 (.aload_n 0) 1 15 := ⟨by decide +kernel, rfl⟩
theorem dd_Mod_putBack_15 : Dc mi_Mod_putBack 15 (.getfield 13) 3 18 := ⟨by decide +kernel, rfl⟩
theorem dd_Mod_putBack_18 : Dc mi_Mod_putBack 18 (.iload_n 1) 1 19 := ⟨by decide +kernel, rfl⟩
theorem dd_Mod_putBack_19 : Dc mi_Mod_putBack 19 (.iaload) 1 20 := ⟨by decide +kernel, rfl⟩
theorem dd_Mod_putBack_20 : Dc mi_Mod_putBack 20 (.iastore) 1 21 := ⟨by decide +kernel, rfl⟩
theorem dd_Mod_putBack_21 : Dc mi_Mod_putBack 21 (.iinc 1 1) 3 24 := ⟨by decide +kernel, rfl⟩
theorem dd_Mod_putBack_24 : Db mi_Mod_putBack 24 (.goto (-22)) (-22) 27 2 := ⟨by decide +kernel, rfl, rfl⟩
theorem dd_Mod_putBack_27 : decode (mbc mi_Mod_putBack) 27 = .ok (retI (mrt mi_Mod_putBack), 1) := by decide +kernel
theorem dd_Mod_stopped_0 : Dc mi_Mod_stopped 0 (.iload_n 1) 1 1 := ⟨by decide +kernel, rfl⟩
theorem dd_Mod_stopped_1 : Dc mi_Mod_stopped 1 (.iconst 0) 1 2 := ⟨by decide +kernel, rfl⟩
theorem dd_Mod_stopped_2 : Dc mi_Mod_stopped 2 (.iconst 1) 1 3 := ⟨by decide +kernel, rfl⟩
theorem dd_Mod_stopped_3 : Dc mi_Mod_stopped 3 (.invokestatic 35) 3 6 := ⟨by decide +kernel, rfl⟩
theorem dd_Mod_stopped_6 : Db mi_Mod_stopped 6 (.ifCond .ne 8) 8 9 14 := ⟨by decide +kernel, rfl, rfl⟩
theorem dd_Mod_stopped_9 : Dc mi_Mod_stopped 9 (.bipush (-2)) 2 11 := ⟨by decide +kernel, rfl⟩
theorem dd_Mod_stopped_11 : Db mi_Mod_stopped 11 (.goto 18) 18 14 29 := ⟨by decide +kernel, rfl, rfl⟩
theorem dd_Mod_stopped_14 : Dc mi_Mod_stopped 14 (.iload_n 1) 1 15 := ⟨by decide +kernel, rfl⟩
theorem dd_Mod_stopped_15 : Db mi_Mod_stopped 15 (.ifCond .ne 10) 10 18 25 := ⟨by decide +kernel, rfl, rfl⟩
theorem dd_Mod_stopped_18 : Dc mi_Mod_stopped 18 (.aload_n 0) 1 19 := ⟨by decide +kernel, rfl⟩
theorem dd_Mod_stopped_19 : Dc mi_Mod_stopped 19 (.getfield 28) 3 22 := ⟨by decide +kernel, rfl⟩
theorem dd_Mod_stopped_22 : Db mi_Mod_stopped 22 (.goto 7) 7 25 29 := ⟨by decide +kernel, rfl, rfl⟩
theorem dd_Mod_stopped_25 : Dc mi_Mod_stopped 25 (.aload_n 0) 1 26 := ⟨by decide +kernel, rfl⟩
theorem dd_Mod_stopped_26 : Dc mi_Mod_stopped 26 (.getfield 32) 3 29 := ⟨by decide +kernel, rfl⟩
theorem dd_Mod_stopped_29 : decode (mbc mi_Mod_stopped) 29 = .ok (retI (mrt mi_Mod_stopped), 1) := by decide +kernel
theorem dd_Mod_undo_0 : Dc mi_Mod_undo 0 (.aload_n 0) 1 1 := ⟨by decide +kernel, rfl⟩
theorem dd_Mod_undo_1 : Dc mi_Mod_undo 1 (.getfield 39) 3 4 := ⟨by decide +kernel, rfl⟩
theorem dd_Mod_undo_4 : Db mi_Mod_undo 4 (.ifCond .ne 6) 6 7 10 := ⟨by decide +kernel, rfl, rfl⟩
theorem dd_Mod_undo_7 : Dc mi_Mod_undo 7 (.bipush (-5)) 2 9 := ⟨by decide +kernel, rfl⟩
theorem dd_Mod_undo_9 : decode (mbc mi_Mod_undo) 9 = .ok (retI (mrt mi_Mod_undo), 1) := by decide +kernel
theorem dd_Mod_undo_10 : Dc mi_Mod_undo 10 (.aload_n 0) 1 11 := ⟨by decide +kernel, rfl⟩
theorem dd_Mod_undo_11 : Dc mi_Mod_undo 11 (.dup) 1 12 := ⟨by decide +kernel, rfl⟩
theorem dd_Mod_undo_12 : Dc mi_Mod_undo 12 (.getfield 39) 3 15 := ⟨by decide +kernel, rfl⟩
theorem dd_Mod_undo_15 : Dc mi_Mod_undo 15 (.iconst 1) 1 16 := ⟨by decide +kernel, rfl⟩
theorem dd_Mod_undo_16 : Dc mi_Mod_undo 16 (.isub) 1 17 := ⟨by decide +kernel, rfl⟩
theorem dd_Mod_undo_17 : Dc mi_Mod_undo 17 (.putfield 39) 3 20 := ⟨by decide +kernel, rfl⟩
theorem dd_Mod_undo_20 : Dc mi_Mod_undo 20 (.iconst 0) 1 21 := ⟨by decide +kernel, rfl⟩
theorem dd_Mod_undo_21 : Dc mi_Mod_undo 21 (.istore_n 1) 1 22 := ⟨by decide +kernel, rfl⟩
theorem dd_Mod_undo_22 : Dc mi_Mod_undo 22 (.iload_n 1) 1 23 := ⟨by decide +kernel, rfl⟩
theorem dd_Mod_undo_23 : Dc mi_Mod_undo 23 (.sipush 472) 3 26 := ⟨by decide +kernel, rfl⟩
theorem dd_Mod_undo_26 : Db mi_Mod_undo 26 (.if_icmp .ge 30) 30 29 56 := ⟨by decide +kernel, rfl, rfl⟩
theorem dd_Mod_undo_29 : Dc mi_Mod_undo 29 (.aload_n 0) 1 30 := ⟨by decide +kernel, rfl⟩
theorem dd_Mod_undo_30 : Dc mi_Mod_undo 30 (.getfield 7) 3 33 := ⟨by decide +kernel, rfl⟩
theorem dd_Mod_undo_33 : Dc mi_Mod_undo 33 (.iload_n 1) 1 34 := ⟨by decide +kernel, rfl⟩
theorem dd_Mod_undo_34 : Dc mi_Mod_undo 34 (.aload_n 0) 1 35 := ⟨by decide +kernel, rfl⟩
theorem dd_Mod_undo_35 : Dc mi_Mod_undo 35 (.getfield 16) 3 38 := ⟨by decide +kernel, rfl⟩
theorem dd_Mod_undo_38 : Dc mi_Mod_undo 38 (.sipush 472) 3 41 := ⟨by decide +kernel, rfl⟩
theorem dd_Mod_undo_41 : Dc mi_Mod_undo 41 (.aload_n 0) 1 42 := ⟨by decide +kernel, rfl⟩
theorem dd_Mod_undo_42 : Dc mi_Mod_undo 42 (.getfield 39) 3 45 := ⟨by decide +kernel, rfl⟩
theorem dd_Mod_undo_45 : Dc mi_Mod_undo 45 (.imul) 1 46 := ⟨by decide +kernel, rfl⟩
theorem dd_Mod_undo_46 : Dc mi_Mod_undo 46 (.iload_n 1) 1 47 := ⟨by decide +kernel, rfl⟩
theorem dd_Mod_undo_47 : Dc mi_Mod_undo 47 (.iadd) 1 48 := ⟨by decide +kernel, rfl⟩
theorem dd_Mod_undo_48 : Dc mi_Mod_undo 48 (.iaload) 1 49 := ⟨by decide +kernel, rfl⟩
theorem dd_Mod_undo_49 : Dc mi_Mod_undo 49 (.iastore) 1 50 := ⟨by decide +kernel, rfl⟩
theorem dd_Mod_undo_50 : Dc mi_Mod_undo 50 (.iinc 1 1) 3 53 := ⟨by decide +kernel, rfl⟩
theorem dd_Mod_undo_53 : Db mi_Mod_undo 53 (.goto (-31)) (-31) 56 22 := ⟨by decide +kernel, rfl, rfl⟩
theorem dd_Mod_undo_56 : Dc mi_Mod_undo 56 (.aload_n 0) 1 57 := ⟨by decide +kernel, rfl⟩
theorem dd_Mod_undo_57 : Dc mi_Mod_undo 57 (.getfield 39) 3 60 := ⟨by decide +kernel, rfl⟩
theorem dd_Mod_undo_60 : decode (mbc mi_Mod_undo) 60 = .ok (retI (mrt mi_Mod_undo), 1) := by decide +kernel
theorem dd_Mod_keep_0 : Dc mi_Mod_keep 0 (.iconst 0) 1 1 := ⟨by decide +kernel, rfl⟩
theorem dd_Mod_keep_1 : Dc mi_Mod_keep 1 (.istore_n 1) 1 2 := ⟨by decide +kernel, rfl⟩
theorem dd_Mod_keep_2 : Dc mi_Mod_keep 2 (.iload_n 1) 1 3 := ⟨by decide +kernel, rfl⟩
theorem dd_Mod_keep_3 : Dc mi_Mod_keep 3 (.sipush 472) 3 6 := ⟨by decide +kernel, rfl⟩
theorem dd_Mod_keep_6 : Db mi_Mod_keep 6 (.if_icmp .ge 21) 21 9 27 := ⟨by decide +kernel, rfl, rfl⟩
theorem dd_Mod_keep_9 : Dc mi_Mod_keep 9 (.aload_n 0) 1 10 := ⟨by decide +kernel, rfl⟩
theorem dd_Mod_keep_10 : Dc mi_Mod_keep 10 (.getfield 19) 3 13 := ⟨by decide +kernel, rfl⟩
theorem dd_Mod_keep_13 : Dc mi_Mod_keep 13 (.iload_n 1) 1 14 := ⟨by decide +kernel, rfl⟩
theorem dd_Mod_keep_14 : Dc mi_Mod_keep 14 (.aload_n 0) 1 15 := ⟨by decide +kernel, rfl⟩
theorem dd_Mod_keep_15 : Dc mi_Mod_keep 15 (.getfield 7) 3 18 := ⟨by decide +kernel, rfl⟩
theorem dd_Mod_keep_18 : Dc mi_Mod_keep 18 (.iload_n 1) 1 19 := ⟨by decide +kernel, rfl⟩
theorem dd_Mod_keep_19 : Dc mi_Mod_keep 19 (.iaload) 1 20 := ⟨by decide +kernel, rfl⟩
theorem dd_Mod_keep_20 : Dc mi_Mod_keep 20 (.iastore) 1 21 := ⟨by decide +kernel, rfl⟩
theorem dd_Mod_keep_21 : Dc mi_Mod_keep 21 (.iinc 1 1) 3 24 := ⟨by decide +kernel, rfl⟩
theorem dd_Mod_keep_24 : Db mi_Mod_keep 24 (.goto (-22)) (-22) 27 2 := ⟨by decide +kernel, rfl, rfl⟩
theorem dd_Mod_keep_27 : Dc mi_Mod_keep 27 (.aload_n 0) 1 28 := ⟨by decide +kernel, rfl⟩
theorem dd_Mod_keep_28 : Dc mi_Mod_keep 28 (.iconst 1) 1 29 := ⟨by decide +kernel, rfl⟩
theorem dd_Mod_keep_29 : Dc mi_Mod_keep 29 (.putfield 162) 3 32 := ⟨by decide +kernel, rfl⟩
theorem dd_Mod_keep_32 : Dc mi_Mod_keep 32 (.aload_n 0) 1 33 := ⟨by decide +kernel, rfl⟩
theorem dd_Mod_keep_33 : Dc mi_Mod_keep 33 (.invokevirtual 165) 3 36 := ⟨by decide +kernel, rfl⟩
theorem dd_Mod_keep_36 : decode (mbc mi_Mod_keep) 36 = .ok (retI (mrt mi_Mod_keep), 1) := by decide +kernel
theorem dd_Mod_owned_0 : Dc mi_Mod_owned 0 (.iconst 0) 1 1 := ⟨by decide +kernel, rfl⟩
theorem dd_Mod_owned_1 : Dc mi_Mod_owned 1 (.istore_n 1) 1 2 := ⟨by decide +kernel, rfl⟩
theorem dd_Mod_owned_2 : Dc mi_Mod_owned 2 (.iconst 0) 1 3 := ⟨by decide +kernel, rfl⟩
theorem dd_Mod_owned_3 : Dc mi_Mod_owned 3 (.istore_n 2) 1 4 := ⟨by decide +kernel, rfl⟩
theorem dd_Mod_owned_4 : Dc mi_Mod_owned 4 (.iload_n 2) 1 5 := ⟨by decide +kernel, rfl⟩
theorem dd_Mod_owned_5 : Dc mi_Mod_owned 5 (.bipush 64) 2 7 := ⟨by decide +kernel, rfl⟩
theorem dd_Mod_owned_7 : Db mi_Mod_owned 7 (.if_icmp .ge 25) 25 10 32 := ⟨by decide +kernel, rfl, rfl⟩
theorem dd_Mod_owned_10 : Dc mi_Mod_owned 10 (.iload_n 1) 1 11 := ⟨by decide +kernel, rfl⟩
theorem dd_Mod_owned_11 : Dc mi_Mod_owned 11 (.aload_n 0) 1 12 := ⟨by decide +kernel, rfl⟩
theorem dd_Mod_owned_12 : Dc mi_Mod_owned 12 (.iload_n 2) 1 13 := ⟨by decide +kernel, rfl⟩
theorem dd_Mod_owned_13 : Dc mi_Mod_owned 13 (.invokevirtual 42) 3 16 := ⟨by decide +kernel, rfl⟩
theorem dd_Mod_owned_16 : Db mi_Mod_owned 16 (.ifCond .eq 7) 7 19 23 := ⟨by decide +kernel, rfl, rfl⟩
theorem dd_Mod_owned_19 : Dc mi_Mod_owned 19 (.iconst 1) 1 20 := ⟨by decide +kernel, rfl⟩
theorem dd_Mod_owned_20 : Db mi_Mod_owned 20 (.goto 4) 4 23 24 := ⟨by decide +kernel, rfl, rfl⟩
theorem dd_Mod_owned_23 : Dc mi_Mod_owned 23 (.iconst 0) 1 24 := ⟨by decide +kernel, rfl⟩
theorem dd_Mod_owned_24 : Dc mi_Mod_owned 24 (.iadd) 1 25 := ⟨by decide +kernel, rfl⟩
theorem dd_Mod_owned_25 : Dc mi_Mod_owned 25 (.istore_n 1) 1 26 := ⟨by decide +kernel, rfl⟩
theorem dd_Mod_owned_26 : Dc mi_Mod_owned 26 (.iinc 2 1) 3 29 := ⟨by decide +kernel, rfl⟩
theorem dd_Mod_owned_29 : Db mi_Mod_owned 29 (.goto (-25)) (-25) 32 4 := ⟨by decide +kernel, rfl, rfl⟩
theorem dd_Mod_owned_32 : Dc mi_Mod_owned 32 (.iload_n 1) 1 33 := ⟨by decide +kernel, rfl⟩
theorem dd_Mod_owned_33 : decode (mbc mi_Mod_owned) 33 = .ok (retI (mrt mi_Mod_owned), 1) := by decide +kernel
theorem dd_Mod_restore_0 : Dc mi_Mod_restore 0 (.aload_n 0) 1 1 := ⟨by decide +kernel, rfl⟩
theorem dd_Mod_restore_1 : Dc mi_Mod_restore 1 (.getfield 162) 3 4 := ⟨by decide +kernel, rfl⟩
theorem dd_Mod_restore_4 : Db mi_Mod_restore 4 (.ifCond .ne 6) 6 7 10 := ⟨by decide +kernel, rfl, rfl⟩
theorem dd_Mod_restore_7 : Dc mi_Mod_restore 7 (.bipush (-5)) 2 9 := ⟨by decide +kernel, rfl⟩
theorem dd_Mod_restore_9 : decode (mbc mi_Mod_restore) 9 = .ok (retI (mrt mi_Mod_restore), 1) := by decide +kernel
theorem dd_Mod_restore_10 : Dc mi_Mod_restore 10 (.aload_n 0) 1 11 := ⟨by decide +kernel, rfl⟩
theorem dd_Mod_restore_11 : Dc mi_Mod_restore 11 (.invokevirtual 90) 3 14 := ⟨by decide +kernel, rfl⟩
theorem dd_Mod_restore_14 : Dc mi_Mod_restore 14 (.iconst 0) 1 15 := ⟨by decide +kernel, rfl⟩
theorem dd_Mod_restore_15 : Dc mi_Mod_restore 15 (.istore_n 1) 1 16 := ⟨by decide +kernel, rfl⟩
theorem dd_Mod_restore_16 : Dc mi_Mod_restore 16 (.iload_n 1) 1 17 := ⟨by decide +kernel, rfl⟩
theorem dd_Mod_restore_17 : Dc mi_Mod_restore 17 (.sipush 472) 3 20 := ⟨by decide +kernel, rfl⟩
theorem dd_Mod_restore_20 : Db mi_Mod_restore 20 (.if_icmp .ge 21) 21 23 41 := ⟨by decide +kernel, rfl, rfl⟩
theorem dd_Mod_restore_23 : Dc mi_Mod_restore 23 (.aload_n 0) 1 24 := ⟨by decide +kernel, rfl⟩
theorem dd_Mod_restore_24 : Dc mi_Mod_restore 24 (.getfield 7) 3 27 := ⟨by decide +kernel, rfl⟩
theorem dd_Mod_restore_27 : Dc mi_Mod_restore 27 (.iload_n 1) 1 28 := ⟨by decide +kernel, rfl⟩
theorem dd_Mod_restore_28 : Dc mi_Mod_restore 28 (.aload_n 0) 1 29 := ⟨by decide +kernel, rfl⟩
theorem dd_Mod_restore_29 : Dc mi_Mod_restore 29 (.getfield 19) 3 32 := ⟨by decide +kernel, rfl⟩
theorem dd_Mod_restore_32 : Dc mi_Mod_restore 32 (.iload_n 1) 1 33 := ⟨by decide +kernel, rfl⟩
theorem dd_Mod_restore_33 : Dc mi_Mod_restore 33 (.iaload) 1 34 := ⟨by decide +kernel, rfl⟩
theorem dd_Mod_restore_34 : Dc mi_Mod_restore 34 (.iastore) 1 35 := ⟨by decide +kernel, rfl⟩
theorem dd_Mod_restore_35 : Dc mi_Mod_restore 35 (.iinc 1 1) 3 38 := ⟨by decide +kernel, rfl⟩
theorem dd_Mod_restore_38 : Db mi_Mod_restore 38 (.goto (-22)) (-22) 41 16 := ⟨by decide +kernel, rfl, rfl⟩
theorem dd_Mod_restore_41 : Dc mi_Mod_restore 41 (.aload_n 0) 1 42 := ⟨by decide +kernel, rfl⟩
theorem dd_Mod_restore_42 : Dc mi_Mod_restore 42 (.invokevirtual 165) 3 45 := ⟨by decide +kernel, rfl⟩
theorem dd_Mod_restore_45 : decode (mbc mi_Mod_restore) 45 = .ok (retI (mrt mi_Mod_restore), 1) := by decide +kernel
theorem dd_Mod_block_0 : Dc mi_Mod_block 0 (.aload_n 0) 1 1 := ⟨by decide +kernel, rfl⟩
theorem dd_Mod_block_1 : Dc mi_Mod_block 1 (.iload_n 1) 1 2 := ⟨by decide +kernel, rfl⟩
theorem dd_Mod_block_2 : Dc mi_Mod_block 2 (.invokevirtual 78) 3 5 := ⟨by decide +kernel, rfl⟩
theorem dd_Mod_block_5 : Dc mi_Mod_block 5 (.istore_n 3) 1 6 := ⟨by decide +kernel, rfl⟩
theorem dd_Mod_block_6 : Dc mi_Mod_block 6 (.iload_n 3) 1 7 := ⟨by decide +kernel, rfl⟩
theorem dd_Mod_block_7 : Dc mi_Mod_block 7 (.bipush (-5)) 2 9 := ⟨by decide +kernel, rfl⟩
theorem dd_Mod_block_9 : Db mi_Mod_block 9 (.if_icmp .ne 5) 5 12 14 := ⟨by decide +kernel, rfl, rfl⟩
theorem dd_Mod_block_12 : Dc mi_Mod_block 12 (.iconst (-1)) 1 13 := ⟨by decide +kernel, rfl⟩
theorem dd_Mod_block_13 : decode (mbc mi_Mod_block) 13 = .ok (retI (mrt mi_Mod_block), 1) := by decide +kernel
theorem dd_Mod_block_14 : Dc mi_Mod_block 14 (.iload_n 2) 1 15 := ⟨by decide +kernel, rfl⟩
theorem dd_Mod_block_15 : decode (mbc mi_Mod_block) 15 = .ok (.tableswitch 119 0 6 #[41, 43, 57, 68, 79, 85, 105], 41) := by decide +kernel
theorem dd_Mod_block_56 : Dc mi_Mod_block 56 (.iload_n 3) 1 57 := ⟨by decide +kernel, rfl⟩
theorem dd_Mod_block_57 : decode (mbc mi_Mod_block) 57 = .ok (retI (mrt mi_Mod_block), 1) := by decide +kernel
theorem dd_Mod_block_58 : Dc mi_Mod_block 58 (.aload_n 0) 1 59 := ⟨by decide +kernel, rfl⟩
theorem dd_Mod_block_59 : Dc mi_Mod_block 59 (.getfield 7) 3 62 := ⟨by decide +kernel, rfl⟩
theorem dd_Mod_block_62 : Dc mi_Mod_block 62 (.sipush 128) 3 65 := ⟨by decide +kernel, rfl⟩
theorem dd_Mod_block_65 : Dc mi_Mod_block 65 (.iload_n 3) 1 66 := ⟨by decide +kernel, rfl⟩
theorem dd_Mod_block_66 : Dc mi_Mod_block 66 (.iadd) 1 67 := ⟨by decide +kernel, rfl⟩
theorem dd_Mod_block_67 : Dc mi_Mod_block 67 (.iaload) 1 68 := ⟨by decide +kernel, rfl⟩
theorem dd_Mod_block_68 : Dc mi_Mod_block 68 (.invokestatic 168) 3 71 := ⟨by decide +kernel, rfl⟩
theorem dd_Mod_block_71 : decode (mbc mi_Mod_block) 71 = .ok (retI (mrt mi_Mod_block), 1) := by decide +kernel
theorem dd_Mod_block_72 : Dc mi_Mod_block 72 (.aload_n 0) 1 73 := ⟨by decide +kernel, rfl⟩
theorem dd_Mod_block_73 : Dc mi_Mod_block 73 (.getfield 7) 3 76 := ⟨by decide +kernel, rfl⟩
theorem dd_Mod_block_76 : Dc mi_Mod_block 76 (.sipush 256) 3 79 := ⟨by decide +kernel, rfl⟩
theorem dd_Mod_block_79 : Dc mi_Mod_block 79 (.iload_n 3) 1 80 := ⟨by decide +kernel, rfl⟩
theorem dd_Mod_block_80 : Dc mi_Mod_block 80 (.iadd) 1 81 := ⟨by decide +kernel, rfl⟩
theorem dd_Mod_block_81 : Dc mi_Mod_block 81 (.iaload) 1 82 := ⟨by decide +kernel, rfl⟩
theorem dd_Mod_block_82 : decode (mbc mi_Mod_block) 82 = .ok (retI (mrt mi_Mod_block), 1) := by decide +kernel
theorem dd_Mod_block_83 : Dc mi_Mod_block 83 (.aload_n 0) 1 84 := ⟨by decide +kernel, rfl⟩
theorem dd_Mod_block_84 : Dc mi_Mod_block 84 (.getfield 7) 3 87 := ⟨by decide +kernel, rfl⟩
theorem dd_Mod_block_87 : Dc mi_Mod_block 87 (.sipush 320) 3 90 := ⟨by decide +kernel, rfl⟩
theorem dd_Mod_block_90 : Dc mi_Mod_block 90 (.iload_n 3) 1 91 := ⟨by decide +kernel, rfl⟩
theorem dd_Mod_block_91 : Dc mi_Mod_block 91 (.iadd) 1 92 := ⟨by decide +kernel, rfl⟩
theorem dd_Mod_block_92 : Dc mi_Mod_block 92 (.iaload) 1 93 := ⟨by decide +kernel, rfl⟩
theorem dd_Mod_block_93 : decode (mbc mi_Mod_block) 93 = .ok (retI (mrt mi_Mod_block), 1) := by decide +kernel
theorem dd_Mod_block_94 : Dc mi_Mod_block 94 (.aload_n 0) 1 95 := ⟨by decide +kernel, rfl⟩
theorem dd_Mod_block_95 : Dc mi_Mod_block 95 (.iload_n 3) 1 96 := ⟨by decide +kernel, rfl⟩
theorem dd_Mod_block_96 : Dc mi_Mod_block 96 (.invokevirtual 65) 3 99 := ⟨by decide +kernel, rfl⟩
theorem dd_Mod_block_99 : decode (mbc mi_Mod_block) 99 = .ok (retI (mrt mi_Mod_block), 1) := by decide +kernel
theorem dd_Mod_block_100 : Dc mi_Mod_block 100 (.aload_n 0) 1 101 := ⟨by decide +kernel, rfl⟩
theorem dd_Mod_block_101 : Dc mi_Mod_block 101 (.getfield 7) 3 104 := ⟨by decide +kernel, rfl⟩
theorem dd_Mod_block_104 : Dc mi_Mod_block 104 (.sipush 466) 3 107 := ⟨by decide +kernel, rfl⟩
theorem dd_Mod_block_107 : Dc mi_Mod_block 107 (.iaload) 1 108 := ⟨by decide +kernel, rfl⟩
theorem dd_Mod_block_108 : Dc mi_Mod_block 108 (.aload_n 0) 1 109 := ⟨by decide +kernel, rfl⟩
theorem dd_Mod_block_109 : Dc mi_Mod_block 109 (.getfield 7) 3 112 := ⟨by decide +kernel, rfl⟩
theorem dd_Mod_block_112 : Dc mi_Mod_block 112 (.sipush 384) 3 115 := ⟨by decide +kernel, rfl⟩
theorem dd_Mod_block_115 : Dc mi_Mod_block 115 (.iload_n 3) 1 116 := ⟨by decide +kernel, rfl⟩
theorem dd_Mod_block_116 : Dc mi_Mod_block 116 (.iadd) 1 117 := ⟨by decide +kernel, rfl⟩
theorem dd_Mod_block_117 : Dc mi_Mod_block 117 (.iaload) 1 118 := ⟨by decide +kernel, rfl⟩
theorem dd_Mod_block_118 : Dc mi_Mod_block 118 (.isub) 1 119 := ⟨by decide +kernel, rfl⟩
theorem dd_Mod_block_119 : decode (mbc mi_Mod_block) 119 = .ok (retI (mrt mi_Mod_block), 1) := by decide +kernel
theorem dd_Mod_block_120 : Dc mi_Mod_block 120 (.aload_n 0) 1 121 := ⟨by decide +kernel, rfl⟩
theorem dd_Mod_block_121 : Dc mi_Mod_block 121 (.iload_n 3) 1 122 := ⟨by decide +kernel, rfl⟩
theorem dd_Mod_block_122 : Dc mi_Mod_block 122 (.invokevirtual 68) 3 125 := ⟨by decide +kernel, rfl⟩
theorem dd_Mod_block_125 : Db mi_Mod_block 125 (.ifCond .eq 7) 7 128 132 := ⟨by decide +kernel, rfl, rfl⟩
theorem dd_Mod_block_128 : Dc mi_Mod_block 128 (.iconst 1) 1 129 := ⟨by decide +kernel, rfl⟩
theorem dd_Mod_block_129 : Db mi_Mod_block 129 (.goto 4) 4 132 133 := ⟨by decide +kernel, rfl, rfl⟩
theorem dd_Mod_block_132 : Dc mi_Mod_block 132 (.iconst 0) 1 133 := ⟨by decide +kernel, rfl⟩
theorem dd_Mod_block_133 : decode (mbc mi_Mod_block) 133 = .ok (retI (mrt mi_Mod_block), 1) := by decide +kernel
theorem dd_Mod_block_134 : Dc mi_Mod_block 134 (.bipush (-2)) 2 136 := ⟨by decide +kernel, rfl⟩
theorem dd_Mod_block_136 : decode (mbc mi_Mod_block) 136 = .ok (retI (mrt mi_Mod_block), 1) := by decide +kernel
theorem dd_Mod_sizeNumber_0 : Dc mi_Mod_sizeNumber 0 (.iload_n 0) 1 1 := ⟨by decide +kernel, rfl⟩
theorem dd_Mod_sizeNumber_1 : Dc mi_Mod_sizeNumber 1 (.iconst 4) 1 2 := ⟨by decide +kernel, rfl⟩
theorem dd_Mod_sizeNumber_2 : Db mi_Mod_sizeNumber 2 (.if_icmp .ne 7) 7 5 9 := ⟨by decide +kernel, rfl, rfl⟩
theorem dd_Mod_sizeNumber_5 : Dc mi_Mod_sizeNumber 5 (.iconst 0) 1 6 := ⟨by decide +kernel, rfl⟩
theorem dd_Mod_sizeNumber_6 : Db mi_Mod_sizeNumber 6 (.goto 14) 14 9 20 := ⟨by decide +kernel, rfl, rfl⟩
theorem dd_Mod_sizeNumber_9 : Dc mi_Mod_sizeNumber 9 (.iload_n 0) 1 10 := ⟨by decide +kernel, rfl⟩
theorem dd_Mod_sizeNumber_10 : Dc mi_Mod_sizeNumber 10 (.bipush 8) 2 12 := ⟨by decide +kernel, rfl⟩
theorem dd_Mod_sizeNumber_12 : Db mi_Mod_sizeNumber 12 (.if_icmp .ne 7) 7 15 19 := ⟨by decide +kernel, rfl, rfl⟩
theorem dd_Mod_sizeNumber_15 : Dc mi_Mod_sizeNumber 15 (.iconst 1) 1 16 := ⟨by decide +kernel, rfl⟩
theorem dd_Mod_sizeNumber_16 : Db mi_Mod_sizeNumber 16 (.goto 4) 4 19 20 := ⟨by decide +kernel, rfl, rfl⟩
theorem dd_Mod_sizeNumber_19 : Dc mi_Mod_sizeNumber 19 (.iconst 2) 1 20 := ⟨by decide +kernel, rfl⟩
theorem dd_Mod_sizeNumber_20 : decode (mbc mi_Mod_sizeNumber) 20 = .ok (retI (mrt mi_Mod_sizeNumber), 1) := by decide +kernel
theorem dd_Mod_word_0 : Dc mi_Mod_word 0 (.iload_n 1) 1 1 := ⟨by decide +kernel, rfl⟩
theorem dd_Mod_word_1 : Dc mi_Mod_word 1 (.iconst 0) 1 2 := ⟨by decide +kernel, rfl⟩
theorem dd_Mod_word_2 : Dc mi_Mod_word 2 (.bipush 63) 2 4 := ⟨by decide +kernel, rfl⟩
theorem dd_Mod_word_4 : Dc mi_Mod_word 4 (.invokestatic 35) 3 7 := ⟨by decide +kernel, rfl⟩
theorem dd_Mod_word_7 : Db mi_Mod_word 7 (.ifCond .ne 5) 5 10 12 := ⟨by decide +kernel, rfl, rfl⟩
theorem dd_Mod_word_10 : Dc mi_Mod_word 10 (.iconst (-1)) 1 11 := ⟨by decide +kernel, rfl⟩
theorem dd_Mod_word_11 : decode (mbc mi_Mod_word) 11 = .ok (retI (mrt mi_Mod_word), 1) := by decide +kernel
theorem dd_Mod_word_12 : Dc mi_Mod_word 12 (.aload_n 0) 1 13 := ⟨by decide +kernel, rfl⟩
theorem dd_Mod_word_13 : Dc mi_Mod_word 13 (.iload_n 1) 1 14 := ⟨by decide +kernel, rfl⟩
theorem dd_Mod_word_14 : Dc mi_Mod_word 14 (.invokevirtual 46) 3 17 := ⟨by decide +kernel, rfl⟩
theorem dd_Mod_word_17 : Dc mi_Mod_word 17 (.istore_n 3) 1 18 := ⟨by decide +kernel, rfl⟩
theorem dd_Mod_word_18 : Dc mi_Mod_word 18 (.iload_n 2) 1 19 := ⟨by decide +kernel, rfl⟩
theorem dd_Mod_word_19 : decode (mbc mi_Mod_word) 19 = .ok (.tableswitch 77 0 3 #[29, 38, 49, 63], 29) := by decide +kernel
theorem dd_Mod_word_48 : Dc mi_Mod_word 48 (.aload_n 0) 1 49 := ⟨by decide +kernel, rfl⟩
theorem dd_Mod_word_49 : Dc mi_Mod_word 49 (.getfield 7) 3 52 := ⟨by decide +kernel, rfl⟩
theorem dd_Mod_word_52 : Dc mi_Mod_word 52 (.iconst 0) 1 53 := ⟨by decide +kernel, rfl⟩
theorem dd_Mod_word_53 : Dc mi_Mod_word 53 (.iload_n 1) 1 54 := ⟨by decide +kernel, rfl⟩
theorem dd_Mod_word_54 : Dc mi_Mod_word 54 (.iadd) 1 55 := ⟨by decide +kernel, rfl⟩
theorem dd_Mod_word_55 : Dc mi_Mod_word 55 (.iaload) 1 56 := ⟨by decide +kernel, rfl⟩
theorem dd_Mod_word_56 : decode (mbc mi_Mod_word) 56 = .ok (retI (mrt mi_Mod_word), 1) := by decide +kernel
theorem dd_Mod_word_57 : Dc mi_Mod_word 57 (.aload_n 0) 1 58 := ⟨by decide +kernel, rfl⟩
theorem dd_Mod_word_58 : Dc mi_Mod_word 58 (.getfield 7) 3 61 := ⟨by decide +kernel, rfl⟩
theorem dd_Mod_word_61 : Dc mi_Mod_word 61 (.sipush 192) 3 64 := ⟨by decide +kernel, rfl⟩
theorem dd_Mod_word_64 : Dc mi_Mod_word 64 (.iload_n 3) 1 65 := ⟨by decide +kernel, rfl⟩
theorem dd_Mod_word_65 : Dc mi_Mod_word 65 (.iadd) 1 66 := ⟨by decide +kernel, rfl⟩
theorem dd_Mod_word_66 : Dc mi_Mod_word 66 (.iaload) 1 67 := ⟨by decide +kernel, rfl⟩
theorem dd_Mod_word_67 : decode (mbc mi_Mod_word) 67 = .ok (retI (mrt mi_Mod_word), 1) := by decide +kernel
theorem dd_Mod_word_68 : Dc mi_Mod_word 68 (.aload_n 0) 1 69 := ⟨by decide +kernel, rfl⟩
theorem dd_Mod_word_69 : Dc mi_Mod_word 69 (.iload_n 1) 1 70 := ⟨by decide +kernel, rfl⟩
theorem dd_Mod_word_70 : Dc mi_Mod_word 70 (.invokevirtual 99) 3 73 := ⟨by decide +kernel, rfl⟩
theorem dd_Mod_word_73 : Db mi_Mod_word 73 (.ifCond .eq 7) 7 76 80 := ⟨by decide +kernel, rfl, rfl⟩
theorem dd_Mod_word_76 : Dc mi_Mod_word 76 (.iconst 1) 1 77 := ⟨by decide +kernel, rfl⟩
theorem dd_Mod_word_77 : Db mi_Mod_word 77 (.goto 4) 4 80 81 := ⟨by decide +kernel, rfl, rfl⟩
theorem dd_Mod_word_80 : Dc mi_Mod_word 80 (.iconst 0) 1 81 := ⟨by decide +kernel, rfl⟩
theorem dd_Mod_word_81 : decode (mbc mi_Mod_word) 81 = .ok (retI (mrt mi_Mod_word), 1) := by decide +kernel
theorem dd_Mod_word_82 : Dc mi_Mod_word 82 (.aload_n 0) 1 83 := ⟨by decide +kernel, rfl⟩
theorem dd_Mod_word_83 : Dc mi_Mod_word 83 (.getfield 7) 3 86 := ⟨by decide +kernel, rfl⟩
theorem dd_Mod_word_86 : Dc mi_Mod_word 86 (.sipush 128) 3 89 := ⟨by decide +kernel, rfl⟩
theorem dd_Mod_word_89 : Dc mi_Mod_word 89 (.iload_n 3) 1 90 := ⟨by decide +kernel, rfl⟩
theorem dd_Mod_word_90 : Dc mi_Mod_word 90 (.iadd) 1 91 := ⟨by decide +kernel, rfl⟩
theorem dd_Mod_word_91 : Dc mi_Mod_word 91 (.iaload) 1 92 := ⟨by decide +kernel, rfl⟩
theorem dd_Mod_word_92 : Dc mi_Mod_word 92 (.invokestatic 168) 3 95 := ⟨by decide +kernel, rfl⟩
theorem dd_Mod_word_95 : decode (mbc mi_Mod_word) 95 = .ok (retI (mrt mi_Mod_word), 1) := by decide +kernel
theorem dd_Mod_word_96 : Dc mi_Mod_word 96 (.bipush (-2)) 2 98 := ⟨by decide +kernel, rfl⟩
theorem dd_Mod_word_98 : decode (mbc mi_Mod_word) 98 = .ok (retI (mrt mi_Mod_word), 1) := by decide +kernel
theorem dd_Mod_task_0 : Dc mi_Mod_task 0 (.iload_n 1) 1 1 := ⟨by decide +kernel, rfl⟩
theorem dd_Mod_task_1 : Dc mi_Mod_task 1 (.invokestatic 71) 3 4 := ⟨by decide +kernel, rfl⟩
theorem dd_Mod_task_4 : Db mi_Mod_task 4 (.ifCond .ne 5) 5 7 9 := ⟨by decide +kernel, rfl, rfl⟩
theorem dd_Mod_task_7 : Dc mi_Mod_task 7 (.iconst (-1)) 1 8 := ⟨by decide +kernel, rfl⟩
theorem dd_Mod_task_8 : decode (mbc mi_Mod_task) 8 = .ok (retI (mrt mi_Mod_task), 1) := by decide +kernel
theorem dd_Mod_task_9 : Dc mi_Mod_task 9 (.iload_n 2) 1 10 := ⟨by decide +kernel, rfl⟩
theorem dd_Mod_task_10 : decode (mbc mi_Mod_task) 10 = .ok (.tableswitch 101 0 6 #[42, 55, 61, 67, 73, 84, 90], 42) := by decide +kernel
theorem dd_Mod_task_52 : Dc mi_Mod_task 52 (.iconst 1) 1 53 := ⟨by decide +kernel, rfl⟩
theorem dd_Mod_task_53 : Dc mi_Mod_task 53 (.aload_n 0) 1 54 := ⟨by decide +kernel, rfl⟩
theorem dd_Mod_task_54 : Dc mi_Mod_task 54 (.getfield 7) 3 57 := ⟨by decide +kernel, rfl⟩
theorem dd_Mod_task_57 : Dc mi_Mod_task 57 (.sipush 448) 3 60 := ⟨by decide +kernel, rfl⟩
theorem dd_Mod_task_60 : Dc mi_Mod_task 60 (.iload_n 1) 1 61 := ⟨by decide +kernel, rfl⟩
theorem dd_Mod_task_61 : Dc mi_Mod_task 61 (.iadd) 1 62 := ⟨by decide +kernel, rfl⟩
theorem dd_Mod_task_62 : Dc mi_Mod_task 62 (.iaload) 1 63 := ⟨by decide +kernel, rfl⟩
theorem dd_Mod_task_63 : Dc mi_Mod_task 63 (.isub) 1 64 := ⟨by decide +kernel, rfl⟩
theorem dd_Mod_task_64 : decode (mbc mi_Mod_task) 64 = .ok (retI (mrt mi_Mod_task), 1) := by decide +kernel
theorem dd_Mod_task_65 : Dc mi_Mod_task 65 (.aload_n 0) 1 66 := ⟨by decide +kernel, rfl⟩
theorem dd_Mod_task_66 : Dc mi_Mod_task 66 (.iload_n 1) 1 67 := ⟨by decide +kernel, rfl⟩
theorem dd_Mod_task_67 : Dc mi_Mod_task 67 (.invokevirtual 105) 3 70 := ⟨by decide +kernel, rfl⟩
theorem dd_Mod_task_70 : decode (mbc mi_Mod_task) 70 = .ok (retI (mrt mi_Mod_task), 1) := by decide +kernel
theorem dd_Mod_task_71 : Dc mi_Mod_task 71 (.aload_n 0) 1 72 := ⟨by decide +kernel, rfl⟩
theorem dd_Mod_task_72 : Dc mi_Mod_task 72 (.iload_n 1) 1 73 := ⟨by decide +kernel, rfl⟩
theorem dd_Mod_task_73 : Dc mi_Mod_task 73 (.invokevirtual 56) 3 76 := ⟨by decide +kernel, rfl⟩
theorem dd_Mod_task_76 : decode (mbc mi_Mod_task) 76 = .ok (retI (mrt mi_Mod_task), 1) := by decide +kernel
theorem dd_Mod_task_77 : Dc mi_Mod_task 77 (.aload_n 0) 1 78 := ⟨by decide +kernel, rfl⟩
theorem dd_Mod_task_78 : Dc mi_Mod_task 78 (.iload_n 1) 1 79 := ⟨by decide +kernel, rfl⟩
theorem dd_Mod_task_79 : Dc mi_Mod_task 79 (.invokevirtual 171) 3 82 := ⟨by decide +kernel, rfl⟩
theorem dd_Mod_task_82 : decode (mbc mi_Mod_task) 82 = .ok (retI (mrt mi_Mod_task), 1) := by decide +kernel
theorem dd_Mod_task_83 : Dc mi_Mod_task 83 (.aload_n 0) 1 84 := ⟨by decide +kernel, rfl⟩
theorem dd_Mod_task_84 : Dc mi_Mod_task 84 (.getfield 7) 3 87 := ⟨by decide +kernel, rfl⟩
theorem dd_Mod_task_87 : Dc mi_Mod_task 87 (.sipush 454) 3 90 := ⟨by decide +kernel, rfl⟩
theorem dd_Mod_task_90 : Dc mi_Mod_task 90 (.iload_n 1) 1 91 := ⟨by decide +kernel, rfl⟩
theorem dd_Mod_task_91 : Dc mi_Mod_task 91 (.iadd) 1 92 := ⟨by decide +kernel, rfl⟩
theorem dd_Mod_task_92 : Dc mi_Mod_task 92 (.iaload) 1 93 := ⟨by decide +kernel, rfl⟩
theorem dd_Mod_task_93 : decode (mbc mi_Mod_task) 93 = .ok (retI (mrt mi_Mod_task), 1) := by decide +kernel
theorem dd_Mod_task_94 : Dc mi_Mod_task 94 (.aload_n 0) 1 95 := ⟨by decide +kernel, rfl⟩
theorem dd_Mod_task_95 : Dc mi_Mod_task 95 (.iload_n 1) 1 96 := ⟨by decide +kernel, rfl⟩
theorem dd_Mod_task_96 : Dc mi_Mod_task 96 (.invokevirtual 81) 3 99 := ⟨by decide +kernel, rfl⟩
theorem dd_Mod_task_99 : decode (mbc mi_Mod_task) 99 = .ok (retI (mrt mi_Mod_task), 1) := by decide +kernel
theorem dd_Mod_task_100 : Dc mi_Mod_task 100 (.aload_n 0) 1 101 := ⟨by decide +kernel, rfl⟩
theorem dd_Mod_task_101 : Dc mi_Mod_task 101 (.getfield 7) 3 104 := ⟨by decide +kernel, rfl⟩
theorem dd_Mod_task_104 : Dc mi_Mod_task 104 (.sipush 460) 3 107 := ⟨by decide +kernel, rfl⟩
theorem dd_Mod_task_107 : Dc mi_Mod_task 107 (.iload_n 1) 1 108 := ⟨by decide +kernel, rfl⟩
theorem dd_Mod_task_108 : Dc mi_Mod_task 108 (.iadd) 1 109 := ⟨by decide +kernel, rfl⟩
theorem dd_Mod_task_109 : Dc mi_Mod_task 109 (.iaload) 1 110 := ⟨by decide +kernel, rfl⟩
theorem dd_Mod_task_110 : decode (mbc mi_Mod_task) 110 = .ok (retI (mrt mi_Mod_task), 1) := by decide +kernel
theorem dd_Mod_task_111 : Dc mi_Mod_task 111 (.bipush (-2)) 2 113 := ⟨by decide +kernel, rfl⟩
theorem dd_Mod_task_113 : decode (mbc mi_Mod_task) 113 = .ok (retI (mrt mi_Mod_task), 1) := by decide +kernel
theorem dd_Mod_asked_0 : Dc mi_Mod_asked 0 (.iconst 0) 1 1 := ⟨by decide +kernel, rfl⟩
theorem dd_Mod_asked_1 : Dc mi_Mod_asked 1 (.istore_n 2) 1 2 := ⟨by decide +kernel, rfl⟩
theorem dd_Mod_asked_2 : Dc mi_Mod_asked 2 (.iconst 0) 1 3 := ⟨by decide +kernel, rfl⟩
theorem dd_Mod_asked_3 : Dc mi_Mod_asked 3 (.istore_n 3) 1 4 := ⟨by decide +kernel, rfl⟩
theorem dd_Mod_asked_4 : Dc mi_Mod_asked 4 (.iload_n 3) 1 5 := ⟨by decide +kernel, rfl⟩
theorem dd_Mod_asked_5 : Dc mi_Mod_asked 5 (.bipush 64) 2 7 := ⟨by decide +kernel, rfl⟩
theorem dd_Mod_asked_7 : Db mi_Mod_asked 7 (.if_icmp .ge 54) 54 10 61 := ⟨by decide +kernel, rfl, rfl⟩
theorem dd_Mod_asked_10 : Dc mi_Mod_asked 10 (.iload_n 2) 1 11 := ⟨by decide +kernel, rfl⟩
theorem dd_Mod_asked_11 : Dc mi_Mod_asked 11 (.aload_n 0) 1 12 := ⟨by decide +kernel, rfl⟩
theorem dd_Mod_asked_12 : Dc mi_Mod_asked 12 (.iload_n 3) 1 13 := ⟨by decide +kernel, rfl⟩
theorem dd_Mod_asked_13 : Dc mi_Mod_asked 13 (.invokevirtual 42) 3 16 := ⟨by decide +kernel, rfl⟩
theorem dd_Mod_asked_16 : Db mi_Mod_asked 16 (.ifCond .eq 36) 36 19 52 := ⟨by decide +kernel, rfl, rfl⟩
theorem dd_Mod_asked_19 : Dc mi_Mod_asked 19 (.iload_n 1) 1 20 := ⟨by decide +kernel, rfl⟩
theorem dd_Mod_asked_20 : Dc mi_Mod_asked 20 (.bipush 6) 2 22 := ⟨by decide +kernel, rfl⟩
theorem dd_Mod_asked_22 : Db mi_Mod_asked 22 (.if_icmp .eq 17) 17 25 39 := ⟨by decide +kernel, rfl, rfl⟩
theorem dd_Mod_asked_25 : Dc mi_Mod_asked 25 (.aload_n 0) 1 26 := ⟨by decide +kernel, rfl⟩
theorem dd_Mod_asked_26 : Dc mi_Mod_asked 26 (.getfield 7) 3 29 := ⟨by decide +kernel, rfl⟩
theorem dd_Mod_asked_29 : Dc mi_Mod_asked 29 (.sipush 256) 3 32 := ⟨by decide +kernel, rfl⟩
theorem dd_Mod_asked_32 : Dc mi_Mod_asked 32 (.iload_n 3) 1 33 := ⟨by decide +kernel, rfl⟩
theorem dd_Mod_asked_33 : Dc mi_Mod_asked 33 (.iadd) 1 34 := ⟨by decide +kernel, rfl⟩
theorem dd_Mod_asked_34 : Dc mi_Mod_asked 34 (.iaload) 1 35 := ⟨by decide +kernel, rfl⟩
theorem dd_Mod_asked_35 : Dc mi_Mod_asked 35 (.iload_n 1) 1 36 := ⟨by decide +kernel, rfl⟩
theorem dd_Mod_asked_36 : Db mi_Mod_asked 36 (.if_icmp .ne 16) 16 39 52 := ⟨by decide +kernel, rfl, rfl⟩
theorem dd_Mod_asked_39 : Dc mi_Mod_asked 39 (.aload_n 0) 1 40 := ⟨by decide +kernel, rfl⟩
theorem dd_Mod_asked_40 : Dc mi_Mod_asked 40 (.getfield 7) 3 43 := ⟨by decide +kernel, rfl⟩
theorem dd_Mod_asked_43 : Dc mi_Mod_asked 43 (.sipush 320) 3 46 := ⟨by decide +kernel, rfl⟩
theorem dd_Mod_asked_46 : Dc mi_Mod_asked 46 (.iload_n 3) 1 47 := ⟨by decide +kernel, rfl⟩
theorem dd_Mod_asked_47 : Dc mi_Mod_asked 47 (.iadd) 1 48 := ⟨by decide +kernel, rfl⟩
theorem dd_Mod_asked_48 : Dc mi_Mod_asked 48 (.iaload) 1 49 := ⟨by decide +kernel, rfl⟩
theorem dd_Mod_asked_49 : Db mi_Mod_asked 49 (.goto 4) 4 52 53 := ⟨by decide +kernel, rfl, rfl⟩
theorem dd_Mod_asked_52 : Dc mi_Mod_asked 52 (.iconst 0) 1 53 := ⟨by decide +kernel, rfl⟩
theorem dd_Mod_asked_53 : Dc mi_Mod_asked 53 (.iadd) 1 54 := ⟨by decide +kernel, rfl⟩
theorem dd_Mod_asked_54 : Dc mi_Mod_asked 54 (.istore_n 2) 1 55 := ⟨by decide +kernel, rfl⟩
theorem dd_Mod_asked_55 : Dc mi_Mod_asked 55 (.iinc 3 1) 3 58 := ⟨by decide +kernel, rfl⟩
theorem dd_Mod_asked_58 : Db mi_Mod_asked 58 (.goto (-54)) (-54) 61 4 := ⟨by decide +kernel, rfl, rfl⟩
theorem dd_Mod_asked_61 : Dc mi_Mod_asked 61 (.iload_n 2) 1 62 := ⟨by decide +kernel, rfl⟩
theorem dd_Mod_asked_62 : decode (mbc mi_Mod_asked) 62 = .ok (retI (mrt mi_Mod_asked), 1) := by decide +kernel
theorem dd_Mod_reason_0 : Dc mi_Mod_reason 0 (.iload_n 1) 1 1 := ⟨by decide +kernel, rfl⟩
theorem dd_Mod_reason_1 : Dc mi_Mod_reason 1 (.invokestatic 71) 3 4 := ⟨by decide +kernel, rfl⟩
theorem dd_Mod_reason_4 : Db mi_Mod_reason 4 (.ifCond .ne 7) 7 7 11 := ⟨by decide +kernel, rfl, rfl⟩
theorem dd_Mod_reason_7 : Dc mi_Mod_reason 7 (.iconst (-1)) 1 8 := ⟨by decide +kernel, rfl⟩
theorem dd_Mod_reason_8 : Db mi_Mod_reason 8 (.goto 24) 24 11 32 := ⟨by decide +kernel, rfl, rfl⟩
theorem dd_Mod_reason_11 : Dc mi_Mod_reason 11 (.iload_n 2) 1 12 := ⟨by decide +kernel, rfl⟩
theorem dd_Mod_reason_12 : Dc mi_Mod_reason 12 (.iconst 1) 1 13 := ⟨by decide +kernel, rfl⟩
theorem dd_Mod_reason_13 : Dc mi_Mod_reason 13 (.bipush 14) 2 15 := ⟨by decide +kernel, rfl⟩
theorem dd_Mod_reason_15 : Dc mi_Mod_reason 15 (.invokestatic 35) 3 18 := ⟨by decide +kernel, rfl⟩
theorem dd_Mod_reason_18 : Db mi_Mod_reason 18 (.ifCond .ne 8) 8 21 26 := ⟨by decide +kernel, rfl, rfl⟩
theorem dd_Mod_reason_21 : Dc mi_Mod_reason 21 (.bipush (-2)) 2 23 := ⟨by decide +kernel, rfl⟩
theorem dd_Mod_reason_23 : Db mi_Mod_reason 23 (.goto 9) 9 26 32 := ⟨by decide +kernel, rfl, rfl⟩
theorem dd_Mod_reason_26 : Dc mi_Mod_reason 26 (.aload_n 0) 1 27 := ⟨by decide +kernel, rfl⟩
theorem dd_Mod_reason_27 : Dc mi_Mod_reason 27 (.iload_n 1) 1 28 := ⟨by decide +kernel, rfl⟩
theorem dd_Mod_reason_28 : Dc mi_Mod_reason 28 (.iload_n 2) 1 29 := ⟨by decide +kernel, rfl⟩
theorem dd_Mod_reason_29 : Dc mi_Mod_reason 29 (.invokevirtual 74) 3 32 := ⟨by decide +kernel, rfl⟩
theorem dd_Mod_reason_32 : decode (mbc mi_Mod_reason) 32 = .ok (retI (mrt mi_Mod_reason), 1) := by decide +kernel
theorem dd_Mod_greatest_0 : Dc mi_Mod_greatest 0 (.iload_n 1) 1 1 := ⟨by decide +kernel, rfl⟩
theorem dd_Mod_greatest_1 : Dc mi_Mod_greatest 1 (.invokestatic 71) 3 4 := ⟨by decide +kernel, rfl⟩
theorem dd_Mod_greatest_4 : Db mi_Mod_greatest 4 (.ifCond .ne 5) 5 7 9 := ⟨by decide +kernel, rfl, rfl⟩
theorem dd_Mod_greatest_7 : Dc mi_Mod_greatest 7 (.iconst (-1)) 1 8 := ⟨by decide +kernel, rfl⟩
theorem dd_Mod_greatest_8 : decode (mbc mi_Mod_greatest) 8 = .ok (retI (mrt mi_Mod_greatest), 1) := by decide +kernel
theorem dd_Mod_greatest_9 : Dc mi_Mod_greatest 9 (.bipush 14) 2 11 := ⟨by decide +kernel, rfl⟩
theorem dd_Mod_greatest_11 : Dc mi_Mod_greatest 11 (.istore_n 2) 1 12 := ⟨by decide +kernel, rfl⟩
theorem dd_Mod_greatest_12 : Dc mi_Mod_greatest 12 (.iload_n 2) 1 13 := ⟨by decide +kernel, rfl⟩
theorem dd_Mod_greatest_13 : Db mi_Mod_greatest 13 (.ifCond .le 20) 20 16 33 := ⟨by decide +kernel, rfl, rfl⟩
theorem dd_Mod_greatest_16 : Dc mi_Mod_greatest 16 (.aload_n 0) 1 17 := ⟨by decide +kernel, rfl⟩
theorem dd_Mod_greatest_17 : Dc mi_Mod_greatest 17 (.iload_n 1) 1 18 := ⟨by decide +kernel, rfl⟩
theorem dd_Mod_greatest_18 : Dc mi_Mod_greatest 18 (.iload_n 2) 1 19 := ⟨by decide +kernel, rfl⟩
theorem dd_Mod_greatest_19 : Dc mi_Mod_greatest 19 (.invokevirtual 74) 3 22 := ⟨by decide +kernel, rfl⟩
theorem dd_Mod_greatest_22 : Db mi_Mod_greatest 22 (.ifCond .ne 5) 5 25 27 := ⟨by decide +kernel, rfl, rfl⟩
theorem dd_Mod_greatest_25 : Dc mi_Mod_greatest 25 (.iload_n 2) 1 26 := ⟨by decide +kernel, rfl⟩
theorem dd_Mod_greatest_26 : decode (mbc mi_Mod_greatest) 26 = .ok (retI (mrt mi_Mod_greatest), 1) := by decide +kernel
theorem dd_Mod_greatest_27 : Dc mi_Mod_greatest 27 (.iinc 2 (-1)) 3 30 := ⟨by decide +kernel, rfl⟩
theorem dd_Mod_greatest_30 : Db mi_Mod_greatest 30 (.goto (-18)) (-18) 33 12 := ⟨by decide +kernel, rfl, rfl⟩
theorem dd_Mod_greatest_33 : Dc mi_Mod_greatest 33 (.bipush (-5)) 2 35 := ⟨by decide +kernel, rfl⟩
theorem dd_Mod_greatest_35 : decode (mbc mi_Mod_greatest) 35 = .ok (retI (mrt mi_Mod_greatest), 1) := by decide +kernel
theorem dd_Mod_leak_0 : Dc mi_Mod_leak 0 (.iload_n 1) 1 1 := ⟨by decide +kernel, rfl⟩
theorem dd_Mod_leak_1 : Db mi_Mod_leak 1 (.ifCond .ge 6) 6 4 7 := ⟨by decide +kernel, rfl, rfl⟩
theorem dd_Mod_leak_4 : Dc mi_Mod_leak 4 (.bipush (-2)) 2 6 := ⟨by decide +kernel, rfl⟩
theorem dd_Mod_leak_6 : decode (mbc mi_Mod_leak) 6 = .ok (retI (mrt mi_Mod_leak), 1) := by decide +kernel
theorem dd_Mod_leak_7 : Dc mi_Mod_leak 7 (.iconst 0) 1 8 := ⟨by decide +kernel, rfl⟩
theorem dd_Mod_leak_8 : Dc mi_Mod_leak 8 (.istore_n 2) 1 9 := ⟨by decide +kernel, rfl⟩
theorem dd_Mod_leak_9 : Dc mi_Mod_leak 9 (.iload_n 2) 1 10 := ⟨by decide +kernel, rfl⟩
theorem dd_Mod_leak_10 : Dc mi_Mod_leak 10 (.bipush 64) 2 12 := ⟨by decide +kernel, rfl⟩
theorem dd_Mod_leak_12 : Db mi_Mod_leak 12 (.if_icmp .ge 37) 37 15 49 := ⟨by decide +kernel, rfl, rfl⟩
theorem dd_Mod_leak_15 : Dc mi_Mod_leak 15 (.aload_n 0) 1 16 := ⟨by decide +kernel, rfl⟩
theorem dd_Mod_leak_16 : Dc mi_Mod_leak 16 (.iload_n 2) 1 17 := ⟨by decide +kernel, rfl⟩
theorem dd_Mod_leak_17 : Dc mi_Mod_leak 17 (.invokevirtual 68) 3 20 := ⟨by decide +kernel, rfl⟩
theorem dd_Mod_leak_20 : Db mi_Mod_leak 20 (.ifCond .eq 23) 23 23 43 := ⟨by decide +kernel, rfl, rfl⟩
theorem dd_Mod_leak_23 : Dc mi_Mod_leak 23 (.aload_n 0) 1 24 := ⟨by decide +kernel, rfl⟩
theorem dd_Mod_leak_24 : Dc mi_Mod_leak 24 (.iload_n 2) 1 25 := ⟨by decide +kernel, rfl⟩
theorem dd_Mod_leak_25 : Dc mi_Mod_leak 25 (.invokevirtual 174) 3 28 := ⟨by decide +kernel, rfl⟩
theorem dd_Mod_leak_28 : Dc mi_Mod_leak 28 (.iload_n 1) 1 29 := ⟨by decide +kernel, rfl⟩
theorem dd_Mod_leak_29 : Db mi_Mod_leak 29 (.if_icmp .ne 14) 14 32 43 := ⟨by decide +kernel, rfl, rfl⟩
theorem dd_Mod_leak_32 : Dc mi_Mod_leak 32 (.aload_n 0) 1 33 := ⟨by decide +kernel, rfl⟩
theorem dd_Mod_leak_33 : Dc mi_Mod_leak 33 (.getfield 7) 3 36 := ⟨by decide +kernel, rfl⟩
theorem dd_Mod_leak_36 : Dc mi_Mod_leak 36 (.sipush 192) 3 39 := ⟨by decide +kernel, rfl⟩
theorem dd_Mod_leak_39 : Dc mi_Mod_leak 39 (.iload_n 2) 1 40 := ⟨by decide +kernel, rfl⟩
theorem dd_Mod_leak_40 : Dc mi_Mod_leak 40 (.iadd) 1 41 := ⟨by decide +kernel, rfl⟩
theorem dd_Mod_leak_41 : Dc mi_Mod_leak 41 (.iaload) 1 42 := ⟨by decide +kernel, rfl⟩
theorem dd_Mod_leak_42 : decode (mbc mi_Mod_leak) 42 = .ok (retI (mrt mi_Mod_leak), 1) := by decide +kernel
theorem dd_Mod_leak_43 : Dc mi_Mod_leak 43 (.iinc 2 1) 3 46 := ⟨by decide +kernel, rfl⟩
theorem dd_Mod_leak_46 : Db mi_Mod_leak 46 (.goto (-37)) (-37) 49 9 := ⟨by decide +kernel, rfl, rfl⟩
theorem dd_Mod_leak_49 : Dc mi_Mod_leak 49 (.bipush (-5)) 2 51 := ⟨by decide +kernel, rfl⟩
theorem dd_Mod_leak_51 : decode (mbc mi_Mod_leak) 51 = .ok (retI (mrt mi_Mod_leak), 1) := by decide +kernel
theorem dd_Mod_ahead_0 : Dc mi_Mod_ahead 0 (.iconst 0) 1 1 := ⟨by decide +kernel, rfl⟩
theorem dd_Mod_ahead_1 : Dc mi_Mod_ahead 1 (.istore_n 2) 1 2 := ⟨by decide +kernel, rfl⟩
theorem dd_Mod_ahead_2 : Dc mi_Mod_ahead 2 (.iconst 0) 1 3 := ⟨by decide +kernel, rfl⟩
theorem dd_Mod_ahead_3 : Dc mi_Mod_ahead 3 (.istore_n 3) 1 4 := ⟨by decide +kernel, rfl⟩
theorem dd_Mod_ahead_4 : Dc mi_Mod_ahead 4 (.iload_n 3) 1 5 := ⟨by decide +kernel, rfl⟩
theorem dd_Mod_ahead_5 : Dc mi_Mod_ahead 5 (.bipush 64) 2 7 := ⟨by decide +kernel, rfl⟩
theorem dd_Mod_ahead_7 : Db mi_Mod_ahead 7 (.if_icmp .ge 106) 106 10 113 := ⟨by decide +kernel, rfl, rfl⟩
theorem dd_Mod_ahead_10 : Dc mi_Mod_ahead 10 (.aload_n 0) 1 11 := ⟨by decide +kernel, rfl⟩
theorem dd_Mod_ahead_11 : Dc mi_Mod_ahead 11 (.getfield 7) 3 14 := ⟨by decide +kernel, rfl⟩
theorem dd_Mod_ahead_14 : Dc mi_Mod_ahead 14 (.sipush 384) 3 17 := ⟨by decide +kernel, rfl⟩
theorem dd_Mod_ahead_17 : Dc mi_Mod_ahead 17 (.iload_n 3) 1 18 := ⟨by decide +kernel, rfl⟩
theorem dd_Mod_ahead_18 : Dc mi_Mod_ahead 18 (.iadd) 1 19 := ⟨by decide +kernel, rfl⟩
theorem dd_Mod_ahead_19 : Dc mi_Mod_ahead 19 (.iaload) 1 20 := ⟨by decide +kernel, rfl⟩
theorem dd_Mod_ahead_20 : Dc mi_Mod_ahead 20 (.aload_n 0) 1 21 := ⟨by decide +kernel, rfl⟩
theorem dd_Mod_ahead_21 : Dc mi_Mod_ahead 21 (.getfield 7) 3 24 := ⟨by decide +kernel, rfl⟩
theorem dd_Mod_ahead_24 : Dc mi_Mod_ahead 24 (.sipush 384) 3 27 := ⟨by decide +kernel, rfl⟩
theorem dd_Mod_ahead_27 : Dc mi_Mod_ahead 27 (.iload_n 1) 1 28 := ⟨by decide +kernel, rfl⟩
theorem dd_Mod_ahead_28 : Dc mi_Mod_ahead 28 (.iadd) 1 29 := ⟨by decide +kernel, rfl⟩
theorem dd_Mod_ahead_29 : Dc mi_Mod_ahead 29 (.iaload) 1 30 := ⟨by decide +kernel, rfl⟩
theorem dd_Mod_ahead_30 : Db mi_Mod_ahead 30 (.if_icmp .lt 49) 49 33 79 := ⟨by decide +kernel, rfl, rfl⟩
theorem dd_Mod_ahead_33 : Dc mi_Mod_ahead 33 (.aload_n 0) 1 34 := ⟨by decide +kernel, rfl⟩
theorem dd_Mod_ahead_34 : Dc mi_Mod_ahead 34 (.getfield 7) 3 37 := ⟨by decide +kernel, rfl⟩
theorem dd_Mod_ahead_37 : Dc mi_Mod_ahead 37 (.sipush 384) 3 40 := ⟨by decide +kernel, rfl⟩
theorem dd_Mod_ahead_40 : Dc mi_Mod_ahead 40 (.iload_n 3) 1 41 := ⟨by decide +kernel, rfl⟩
theorem dd_Mod_ahead_41 : Dc mi_Mod_ahead 41 (.iadd) 1 42 := ⟨by decide +kernel, rfl⟩
theorem dd_Mod_ahead_42 : Dc mi_Mod_ahead 42 (.iaload) 1 43 := ⟨by decide +kernel, rfl⟩
theorem dd_Mod_ahead_43 : Dc mi_Mod_ahead 43 (.aload_n 0) 1 44 := ⟨by decide +kernel, rfl⟩
theorem dd_Mod_ahead_44 : Dc mi_Mod_ahead 44 (.getfield 7) 3 47 := ⟨by decide +kernel, rfl⟩
theorem dd_Mod_ahead_47 : Dc mi_Mod_ahead 47 (.sipush 384) 3 50 := ⟨by decide +kernel, rfl⟩
theorem dd_Mod_ahead_50 : Dc mi_Mod_ahead 50 (.iload_n 1) 1 51 := ⟨by decide +kernel, rfl⟩
theorem dd_Mod_ahead_51 : Dc mi_Mod_ahead 51 (.iadd) 1 52 := ⟨by decide +kernel, rfl⟩
theorem dd_Mod_ahead_52 : Dc mi_Mod_ahead 52 (.iaload) 1 53 := ⟨by decide +kernel, rfl⟩
theorem dd_Mod_ahead_53 : Db mi_Mod_ahead 53 (.if_icmp .ne 30) 30 56 83 := ⟨by decide +kernel, rfl, rfl⟩
theorem dd_Mod_ahead_56 : Dc mi_Mod_ahead 56 (.aload_n 0) 1 57 := ⟨by decide +kernel, rfl⟩
theorem dd_Mod_ahead_57 : Dc mi_Mod_ahead 57 (.getfield 7) 3 60 := ⟨by decide +kernel, rfl⟩
theorem dd_Mod_ahead_60 : Dc mi_Mod_ahead 60 (.sipush 192) 3 63 := ⟨by decide +kernel, rfl⟩
theorem dd_Mod_ahead_63 : Dc mi_Mod_ahead 63 (.iload_n 3) 1 64 := ⟨by decide +kernel, rfl⟩
theorem dd_Mod_ahead_64 : Dc mi_Mod_ahead 64 (.iadd) 1 65 := ⟨by decide +kernel, rfl⟩
theorem dd_Mod_ahead_65 : Dc mi_Mod_ahead 65 (.iaload) 1 66 := ⟨by decide +kernel, rfl⟩
theorem dd_Mod_ahead_66 : Dc mi_Mod_ahead 66 (.aload_n 0) 1 67 := ⟨by decide +kernel, rfl⟩
theorem dd_Mod_ahead_67 : Dc mi_Mod_ahead 67 (.getfield 7) 3 70 := ⟨by decide +kernel, rfl⟩
theorem dd_Mod_ahead_70 : Dc mi_Mod_ahead 70 (.sipush 192) 3 73 := ⟨by decide +kernel, rfl⟩
theorem dd_Mod_ahead_73 : Dc mi_Mod_ahead 73 (.iload_n 1) 1 74 := ⟨by decide +kernel, rfl⟩
theorem dd_Mod_ahead_74 : Dc mi_Mod_ahead 74 (.iadd) 1 75 := ⟨by decide +kernel, rfl⟩
theorem dd_Mod_ahead_75 : Dc mi_Mod_ahead 75 (.iaload) 1 76 := ⟨by decide +kernel, rfl⟩
theorem dd_Mod_ahead_76 : Db mi_Mod_ahead 76 (.if_icmp .ge 7) 7 79 83 := ⟨by decide +kernel, rfl, rfl⟩
theorem dd_Mod_ahead_79 : Dc mi_Mod_ahead 79 (.iconst 1) 1 80 := ⟨by decide +kernel, rfl⟩
theorem dd_Mod_ahead_80 : Db mi_Mod_ahead 80 (.goto 4) 4 83 84 := ⟨by decide +kernel, rfl, rfl⟩
theorem dd_Mod_ahead_83 : Dc mi_Mod_ahead 83 (.iconst 0) 1 84 := ⟨by decide +kernel, rfl⟩
theorem dd_Mod_ahead_84 : Dc mi_Mod_ahead 84 (.istore 4) 2 86 := ⟨by decide +kernel, rfl⟩
theorem dd_Mod_ahead_86 : Dc mi_Mod_ahead 86 (.iload_n 2) 1 87 := ⟨by decide +kernel, rfl⟩
theorem dd_Mod_ahead_87 : Dc mi_Mod_ahead 87 (.aload_n 0) 1 88 := ⟨by decide +kernel, rfl⟩
theorem dd_Mod_ahead_88 : Dc mi_Mod_ahead 88 (.iload_n 3) 1 89 := ⟨by decide +kernel, rfl⟩
theorem dd_Mod_ahead_89 : Dc mi_Mod_ahead 89 (.invokevirtual 68) 3 92 := ⟨by decide +kernel, rfl⟩
theorem dd_Mod_ahead_92 : Db mi_Mod_ahead 92 (.ifCond .eq 12) 12 95 104 := ⟨by decide +kernel, rfl, rfl⟩
theorem dd_Mod_ahead_95 : Dc mi_Mod_ahead 95 (.iload 4) 2 97 := ⟨by decide +kernel, rfl⟩
theorem dd_Mod_ahead_97 : Db mi_Mod_ahead 97 (.ifCond .eq 7) 7 100 104 := ⟨by decide +kernel, rfl, rfl⟩
theorem dd_Mod_ahead_100 : Dc mi_Mod_ahead 100 (.iconst 1) 1 101 := ⟨by decide +kernel, rfl⟩
theorem dd_Mod_ahead_101 : Db mi_Mod_ahead 101 (.goto 4) 4 104 105 := ⟨by decide +kernel, rfl, rfl⟩
theorem dd_Mod_ahead_104 : Dc mi_Mod_ahead 104 (.iconst 0) 1 105 := ⟨by decide +kernel, rfl⟩
theorem dd_Mod_ahead_105 : Dc mi_Mod_ahead 105 (.iadd) 1 106 := ⟨by decide +kernel, rfl⟩
theorem dd_Mod_ahead_106 : Dc mi_Mod_ahead 106 (.istore_n 2) 1 107 := ⟨by decide +kernel, rfl⟩
theorem dd_Mod_ahead_107 : Dc mi_Mod_ahead 107 (.iinc 3 1) 3 110 := ⟨by decide +kernel, rfl⟩
theorem dd_Mod_ahead_110 : Db mi_Mod_ahead 110 (.goto (-106)) (-106) 113 4 := ⟨by decide +kernel, rfl, rfl⟩
theorem dd_Mod_ahead_113 : Dc mi_Mod_ahead 113 (.iload_n 2) 1 114 := ⟨by decide +kernel, rfl⟩
theorem dd_Mod_ahead_114 : decode (mbc mi_Mod_ahead) 114 = .ok (retI (mrt mi_Mod_ahead), 1) := by decide +kernel
theorem dd_Mod_refused_0 : Dc mi_Mod_refused 0 (.iload_n 1) 1 1 := ⟨by decide +kernel, rfl⟩
theorem dd_Mod_refused_1 : Dc mi_Mod_refused 1 (.iconst 1) 1 2 := ⟨by decide +kernel, rfl⟩
theorem dd_Mod_refused_2 : Dc mi_Mod_refused 2 (.iconst 3) 1 3 := ⟨by decide +kernel, rfl⟩
theorem dd_Mod_refused_3 : Dc mi_Mod_refused 3 (.invokestatic 35) 3 6 := ⟨by decide +kernel, rfl⟩
theorem dd_Mod_refused_6 : Db mi_Mod_refused 6 (.ifCond .eq 12) 12 9 18 := ⟨by decide +kernel, rfl, rfl⟩
theorem dd_Mod_refused_9 : Dc mi_Mod_refused 9 (.aload_n 0) 1 10 := ⟨by decide +kernel, rfl⟩
theorem dd_Mod_refused_10 : Dc mi_Mod_refused 10 (.getfield 22) 3 13 := ⟨by decide +kernel, rfl⟩
theorem dd_Mod_refused_13 : Dc mi_Mod_refused 13 (.iload_n 1) 1 14 := ⟨by decide +kernel, rfl⟩
theorem dd_Mod_refused_14 : Dc mi_Mod_refused 14 (.iaload) 1 15 := ⟨by decide +kernel, rfl⟩
theorem dd_Mod_refused_15 : Db mi_Mod_refused 15 (.goto 5) 5 18 20 := ⟨by decide +kernel, rfl, rfl⟩
theorem dd_Mod_refused_18 : Dc mi_Mod_refused 18 (.bipush (-2)) 2 20 := ⟨by decide +kernel, rfl⟩
theorem dd_Mod_refused_20 : decode (mbc mi_Mod_refused) 20 = .ok (retI (mrt mi_Mod_refused), 1) := by decide +kernel
theorem dd_Mod_size_0 : Dc mi_Mod_size 0 (.iload_n 1) 1 1 := ⟨by decide +kernel, rfl⟩
theorem dd_Mod_size_1 : Dc mi_Mod_size 1 (.iconst 0) 1 2 := ⟨by decide +kernel, rfl⟩
theorem dd_Mod_size_2 : Dc mi_Mod_size 2 (.iconst 2) 1 3 := ⟨by decide +kernel, rfl⟩
theorem dd_Mod_size_3 : Dc mi_Mod_size 3 (.invokestatic 35) 3 6 := ⟨by decide +kernel, rfl⟩
theorem dd_Mod_size_6 : Db mi_Mod_size 6 (.ifCond .ne 5) 5 9 11 := ⟨by decide +kernel, rfl, rfl⟩
theorem dd_Mod_size_9 : Dc mi_Mod_size 9 (.iconst (-1)) 1 10 := ⟨by decide +kernel, rfl⟩
theorem dd_Mod_size_10 : decode (mbc mi_Mod_size) 10 = .ok (retI (mrt mi_Mod_size), 1) := by decide +kernel
theorem dd_Mod_size_11 : Dc mi_Mod_size 11 (.iconst 0) 1 12 := ⟨by decide +kernel, rfl⟩
theorem dd_Mod_size_12 : Dc mi_Mod_size 12 (.istore_n 3) 1 13 := ⟨by decide +kernel, rfl⟩
theorem dd_Mod_size_13 : Dc mi_Mod_size 13 (.iconst 0) 1 14 := ⟨by decide +kernel, rfl⟩
theorem dd_Mod_size_14 : Dc mi_Mod_size 14 (.istore 4) 2 16 := ⟨by decide +kernel, rfl⟩
theorem dd_Mod_size_16 : Dc mi_Mod_size 16 (.iload 4) 2 18 := ⟨by decide +kernel, rfl⟩
theorem dd_Mod_size_18 : Dc mi_Mod_size 18 (.bipush 64) 2 20 := ⟨by decide +kernel, rfl⟩
theorem dd_Mod_size_20 : Db mi_Mod_size 20 (.if_icmp .ge 59) 59 23 79 := ⟨by decide +kernel, rfl, rfl⟩
theorem dd_Mod_size_23 : Dc mi_Mod_size 23 (.iload_n 3) 1 24 := ⟨by decide +kernel, rfl⟩
theorem dd_Mod_size_24 : Dc mi_Mod_size 24 (.aload_n 0) 1 25 := ⟨by decide +kernel, rfl⟩
theorem dd_Mod_size_25 : Dc mi_Mod_size 25 (.getfield 7) 3 28 := ⟨by decide +kernel, rfl⟩
theorem dd_Mod_size_28 : Dc mi_Mod_size 28 (.sipush 128) 3 31 := ⟨by decide +kernel, rfl⟩
theorem dd_Mod_size_31 : Dc mi_Mod_size 31 (.iload 4) 2 33 := ⟨by decide +kernel, rfl⟩
theorem dd_Mod_size_33 : Dc mi_Mod_size 33 (.iadd) 1 34 := ⟨by decide +kernel, rfl⟩
theorem dd_Mod_size_34 : Dc mi_Mod_size 34 (.iaload) 1 35 := ⟨by decide +kernel, rfl⟩
theorem dd_Mod_size_35 : Dc mi_Mod_size 35 (.iconst 4) 1 36 := ⟨by decide +kernel, rfl⟩
theorem dd_Mod_size_36 : Dc mi_Mod_size 36 (.iload_n 1) 1 37 := ⟨by decide +kernel, rfl⟩
theorem dd_Mod_size_37 : Dc mi_Mod_size 37 (.ishl) 1 38 := ⟨by decide +kernel, rfl⟩
theorem dd_Mod_size_38 : Db mi_Mod_size 38 (.if_icmp .ne 32) 32 41 70 := ⟨by decide +kernel, rfl, rfl⟩
theorem dd_Mod_size_41 : Dc mi_Mod_size 41 (.iload_n 2) 1 42 := ⟨by decide +kernel, rfl⟩
theorem dd_Mod_size_42 : Db mi_Mod_size 42 (.ifCond .ne 15) 15 45 57 := ⟨by decide +kernel, rfl, rfl⟩
theorem dd_Mod_size_45 : Dc mi_Mod_size 45 (.aload_n 0) 1 46 := ⟨by decide +kernel, rfl⟩
theorem dd_Mod_size_46 : Dc mi_Mod_size 46 (.iload 4) 2 48 := ⟨by decide +kernel, rfl⟩
theorem dd_Mod_size_48 : Dc mi_Mod_size 48 (.invokevirtual 50) 3 51 := ⟨by decide +kernel, rfl⟩
theorem dd_Mod_size_51 : Db mi_Mod_size 51 (.ifCond .eq 19) 19 54 70 := ⟨by decide +kernel, rfl, rfl⟩
theorem dd_Mod_size_54 : Db mi_Mod_size 54 (.goto 12) 12 57 66 := ⟨by decide +kernel, rfl, rfl⟩
theorem dd_Mod_size_57 : Dc mi_Mod_size 57 (.aload_n 0) 1 58 := ⟨by decide +kernel, rfl⟩
theorem dd_Mod_size_58 : Dc mi_Mod_size 58 (.iload 4) 2 60 := ⟨by decide +kernel, rfl⟩
theorem dd_Mod_size_60 : Dc mi_Mod_size 60 (.invokevirtual 42) 3 63 := ⟨by decide +kernel, rfl⟩
theorem dd_Mod_size_63 : Db mi_Mod_size 63 (.ifCond .eq 7) 7 66 70 := ⟨by decide +kernel, rfl, rfl⟩
theorem dd_Mod_size_66 : Dc mi_Mod_size 66 (.iconst 1) 1 67 := ⟨by decide +kernel, rfl⟩
theorem dd_Mod_size_67 : Db mi_Mod_size 67 (.goto 4) 4 70 71 := ⟨by decide +kernel, rfl, rfl⟩
theorem dd_Mod_size_70 : Dc mi_Mod_size 70 (.iconst 0) 1 71 := ⟨by decide +kernel, rfl⟩
theorem dd_Mod_size_71 : Dc mi_Mod_size 71 (.iadd) 1 72 := ⟨by decide +kernel, rfl⟩
theorem dd_Mod_size_72 : Dc mi_Mod_size 72 (.istore_n 3) 1 73 := ⟨by decide +kernel, rfl⟩
theorem dd_Mod_size_73 : Dc mi_Mod_size 73 (.iinc 4 1) 3 76 := ⟨by decide +kernel, rfl⟩
theorem dd_Mod_size_76 : Db mi_Mod_size 76 (.goto (-60)) (-60) 79 16 := ⟨by decide +kernel, rfl, rfl⟩
theorem dd_Mod_size_79 : Dc mi_Mod_size 79 (.iload_n 2) 1 80 := ⟨by decide +kernel, rfl⟩
theorem dd_Mod_size_80 : Dc mi_Mod_size 80 (.iconst 2) 1 81 := ⟨by decide +kernel, rfl⟩
theorem dd_Mod_size_81 : Db mi_Mod_size 81 (.if_icmp .ne 13) 13 84 94 := ⟨by decide +kernel, rfl, rfl⟩
theorem dd_Mod_size_84 : Dc mi_Mod_size 84 (.aload_n 0) 1 85 := ⟨by decide +kernel, rfl⟩
theorem dd_Mod_size_85 : Dc mi_Mod_size 85 (.iconst 4) 1 86 := ⟨by decide +kernel, rfl⟩
theorem dd_Mod_size_86 : Dc mi_Mod_size 86 (.iload_n 1) 1 87 := ⟨by decide +kernel, rfl⟩
theorem dd_Mod_size_87 : Dc mi_Mod_size 87 (.ishl) 1 88 := ⟨by decide +kernel, rfl⟩
theorem dd_Mod_size_88 : Dc mi_Mod_size 88 (.invokevirtual 59) 3 91 := ⟨by decide +kernel, rfl⟩
theorem dd_Mod_size_91 : Db mi_Mod_size 91 (.goto 18) 18 94 109 := ⟨by decide +kernel, rfl, rfl⟩
theorem dd_Mod_size_94 : Dc mi_Mod_size 94 (.iload_n 2) 1 95 := ⟨by decide +kernel, rfl⟩
theorem dd_Mod_size_95 : Dc mi_Mod_size 95 (.iconst 0) 1 96 := ⟨by decide +kernel, rfl⟩
theorem dd_Mod_size_96 : Dc mi_Mod_size 96 (.iconst 1) 1 97 := ⟨by decide +kernel, rfl⟩
theorem dd_Mod_size_97 : Dc mi_Mod_size 97 (.invokestatic 35) 3 100 := ⟨by decide +kernel, rfl⟩
theorem dd_Mod_size_100 : Db mi_Mod_size 100 (.ifCond .eq 7) 7 103 107 := ⟨by decide +kernel, rfl, rfl⟩
theorem dd_Mod_size_103 : Dc mi_Mod_size 103 (.iload_n 3) 1 104 := ⟨by decide +kernel, rfl⟩
theorem dd_Mod_size_104 : Db mi_Mod_size 104 (.goto 5) 5 107 109 := ⟨by decide +kernel, rfl, rfl⟩
theorem dd_Mod_size_107 : Dc mi_Mod_size 107 (.bipush (-2)) 2 109 := ⟨by decide +kernel, rfl⟩
theorem dd_Mod_size_109 : decode (mbc mi_Mod_size) 109 = .ok (retI (mrt mi_Mod_size), 1) := by decide +kernel
theorem dd_Mod_count_0 : Dc mi_Mod_count 0 (.iload_n 1) 1 1 := ⟨by decide +kernel, rfl⟩
theorem dd_Mod_count_1 : decode (mbc mi_Mod_count) 1 = .ok (.tableswitch 136 0 11 #[63, 68, 73, 88, 95, 104, 104, 104, 104, 117, 126, 131], 63) := by decide +kernel
theorem dd_Mod_count_64 : Dc mi_Mod_count 64 (.aload_n 0) 1 65 := ⟨by decide +kernel, rfl⟩
theorem dd_Mod_count_65 : Dc mi_Mod_count 65 (.invokevirtual 165) 3 68 := ⟨by decide +kernel, rfl⟩
theorem dd_Mod_count_68 : decode (mbc mi_Mod_count) 68 = .ok (retI (mrt mi_Mod_count), 1) := by decide +kernel
theorem dd_Mod_count_69 : Dc mi_Mod_count 69 (.aload_n 0) 1 70 := ⟨by decide +kernel, rfl⟩
theorem dd_Mod_count_70 : Dc mi_Mod_count 70 (.invokevirtual 177) 3 73 := ⟨by decide +kernel, rfl⟩
theorem dd_Mod_count_73 : decode (mbc mi_Mod_count) 73 = .ok (retI (mrt mi_Mod_count), 1) := by decide +kernel
theorem dd_Mod_count_74 : Dc mi_Mod_count 74 (.bipush 64) 2 76 := ⟨by decide +kernel, rfl⟩
theorem dd_Mod_count_76 : Dc mi_Mod_count 76 (.aload_n 0) 1 77 := ⟨by decide +kernel, rfl⟩
theorem dd_Mod_count_77 : Dc mi_Mod_count 77 (.invokevirtual 177) 3 80 := ⟨by decide +kernel, rfl⟩
theorem dd_Mod_count_80 : Dc mi_Mod_count 80 (.isub) 1 81 := ⟨by decide +kernel, rfl⟩
theorem dd_Mod_count_81 : Dc mi_Mod_count 81 (.aload_n 0) 1 82 := ⟨by decide +kernel, rfl⟩
theorem dd_Mod_count_82 : Dc mi_Mod_count 82 (.bipush 6) 2 84 := ⟨by decide +kernel, rfl⟩
theorem dd_Mod_count_84 : Dc mi_Mod_count 84 (.invokevirtual 171) 3 87 := ⟨by decide +kernel, rfl⟩
theorem dd_Mod_count_87 : Dc mi_Mod_count 87 (.isub) 1 88 := ⟨by decide +kernel, rfl⟩
theorem dd_Mod_count_88 : decode (mbc mi_Mod_count) 88 = .ok (retI (mrt mi_Mod_count), 1) := by decide +kernel
theorem dd_Mod_count_89 : Dc mi_Mod_count 89 (.aload_n 0) 1 90 := ⟨by decide +kernel, rfl⟩
theorem dd_Mod_count_90 : Dc mi_Mod_count 90 (.bipush 6) 2 92 := ⟨by decide +kernel, rfl⟩
theorem dd_Mod_count_92 : Dc mi_Mod_count 92 (.invokevirtual 81) 3 95 := ⟨by decide +kernel, rfl⟩
theorem dd_Mod_count_95 : decode (mbc mi_Mod_count) 95 = .ok (retI (mrt mi_Mod_count), 1) := by decide +kernel
theorem dd_Mod_count_96 : Dc mi_Mod_count 96 (.aload_n 0) 1 97 := ⟨by decide +kernel, rfl⟩
theorem dd_Mod_count_97 : Dc mi_Mod_count 97 (.getfield 7) 3 100 := ⟨by decide +kernel, rfl⟩
theorem dd_Mod_count_100 : Dc mi_Mod_count 100 (.sipush 466) 3 103 := ⟨by decide +kernel, rfl⟩
theorem dd_Mod_count_103 : Dc mi_Mod_count 103 (.iaload) 1 104 := ⟨by decide +kernel, rfl⟩
theorem dd_Mod_count_104 : decode (mbc mi_Mod_count) 104 = .ok (retI (mrt mi_Mod_count), 1) := by decide +kernel
theorem dd_Mod_count_105 : Dc mi_Mod_count 105 (.aload_n 0) 1 106 := ⟨by decide +kernel, rfl⟩
theorem dd_Mod_count_106 : Dc mi_Mod_count 106 (.getfield 7) 3 109 := ⟨by decide +kernel, rfl⟩
theorem dd_Mod_count_109 : Dc mi_Mod_count 109 (.sipush 468) 3 112 := ⟨by decide +kernel, rfl⟩
theorem dd_Mod_count_112 : Dc mi_Mod_count 112 (.iload_n 1) 1 113 := ⟨by decide +kernel, rfl⟩
theorem dd_Mod_count_113 : Dc mi_Mod_count 113 (.iadd) 1 114 := ⟨by decide +kernel, rfl⟩
theorem dd_Mod_count_114 : Dc mi_Mod_count 114 (.iconst 5) 1 115 := ⟨by decide +kernel, rfl⟩
theorem dd_Mod_count_115 : Dc mi_Mod_count 115 (.isub) 1 116 := ⟨by decide +kernel, rfl⟩
theorem dd_Mod_count_116 : Dc mi_Mod_count 116 (.iaload) 1 117 := ⟨by decide +kernel, rfl⟩
theorem dd_Mod_count_117 : decode (mbc mi_Mod_count) 117 = .ok (retI (mrt mi_Mod_count), 1) := by decide +kernel
theorem dd_Mod_count_118 : Dc mi_Mod_count 118 (.aload_n 0) 1 119 := ⟨by decide +kernel, rfl⟩
theorem dd_Mod_count_119 : Dc mi_Mod_count 119 (.getfield 7) 3 122 := ⟨by decide +kernel, rfl⟩
theorem dd_Mod_count_122 : Dc mi_Mod_count 122 (.sipush 467) 3 125 := ⟨by decide +kernel, rfl⟩
theorem dd_Mod_count_125 : Dc mi_Mod_count 125 (.iaload) 1 126 := ⟨by decide +kernel, rfl⟩
theorem dd_Mod_count_126 : decode (mbc mi_Mod_count) 126 = .ok (retI (mrt mi_Mod_count), 1) := by decide +kernel
theorem dd_Mod_count_127 : Dc mi_Mod_count 127 (.aload_n 0) 1 128 := ⟨by decide +kernel, rfl⟩
theorem dd_Mod_count_128 : Dc mi_Mod_count 128 (.getfield 39) 3 131 := ⟨by decide +kernel, rfl⟩
theorem dd_Mod_count_131 : decode (mbc mi_Mod_count) 131 = .ok (retI (mrt mi_Mod_count), 1) := by decide +kernel
theorem dd_Mod_count_132 : Dc mi_Mod_count 132 (.aload_n 0) 1 133 := ⟨by decide +kernel, rfl⟩
theorem dd_Mod_count_133 : Dc mi_Mod_count 133 (.getfield 118) 3 136 := ⟨by decide +kernel, rfl⟩
theorem dd_Mod_count_136 : decode (mbc mi_Mod_count) 136 = .ok (retI (mrt mi_Mod_count), 1) := by decide +kernel
theorem dd_Mod_count_137 : Dc mi_Mod_count 137 (.bipush (-2)) 2 139 := ⟨by decide +kernel, rfl⟩
theorem dd_Mod_count_139 : decode (mbc mi_Mod_count) 139 = .ok (retI (mrt mi_Mod_count), 1) := by decide +kernel
theorem dd_Mod_freeWords_0 : Dc mi_Mod_freeWords 0 (.iconst 0) 1 1 := ⟨by decide +kernel, rfl⟩
theorem dd_Mod_freeWords_1 : Dc mi_Mod_freeWords 1 (.istore_n 1) 1 2 := ⟨by decide +kernel, rfl⟩
theorem dd_Mod_freeWords_2 : Dc mi_Mod_freeWords 2 (.iconst 0) 1 3 := ⟨by decide +kernel, rfl⟩
theorem dd_Mod_freeWords_3 : Dc mi_Mod_freeWords 3 (.istore_n 2) 1 4 := ⟨by decide +kernel, rfl⟩
theorem dd_Mod_freeWords_4 : Dc mi_Mod_freeWords 4 (.iload_n 2) 1 5 := ⟨by decide +kernel, rfl⟩
theorem dd_Mod_freeWords_5 : Dc mi_Mod_freeWords 5 (.bipush 64) 2 7 := ⟨by decide +kernel, rfl⟩
theorem dd_Mod_freeWords_7 : Db mi_Mod_freeWords 7 (.if_icmp .ge 34) 34 10 41 := ⟨by decide +kernel, rfl, rfl⟩
theorem dd_Mod_freeWords_10 : Dc mi_Mod_freeWords 10 (.iload_n 1) 1 11 := ⟨by decide +kernel, rfl⟩
theorem dd_Mod_freeWords_11 : Dc mi_Mod_freeWords 11 (.aload_n 0) 1 12 := ⟨by decide +kernel, rfl⟩
theorem dd_Mod_freeWords_12 : Dc mi_Mod_freeWords 12 (.iload_n 2) 1 13 := ⟨by decide +kernel, rfl⟩
theorem dd_Mod_freeWords_13 : Dc mi_Mod_freeWords 13 (.invokevirtual 50) 3 16 := ⟨by decide +kernel, rfl⟩
theorem dd_Mod_freeWords_16 : Db mi_Mod_freeWords 16 (.ifCond .eq 16) 16 19 32 := ⟨by decide +kernel, rfl, rfl⟩
theorem dd_Mod_freeWords_19 : Dc mi_Mod_freeWords 19 (.aload_n 0) 1 20 := ⟨by decide +kernel, rfl⟩
theorem dd_Mod_freeWords_20 : Dc mi_Mod_freeWords 20 (.getfield 7) 3 23 := ⟨by decide +kernel, rfl⟩
theorem dd_Mod_freeWords_23 : Dc mi_Mod_freeWords 23 (.sipush 128) 3 26 := ⟨by decide +kernel, rfl⟩
theorem dd_Mod_freeWords_26 : Dc mi_Mod_freeWords 26 (.iload_n 2) 1 27 := ⟨by decide +kernel, rfl⟩
theorem dd_Mod_freeWords_27 : Dc mi_Mod_freeWords 27 (.iadd) 1 28 := ⟨by decide +kernel, rfl⟩
theorem dd_Mod_freeWords_28 : Dc mi_Mod_freeWords 28 (.iaload) 1 29 := ⟨by decide +kernel, rfl⟩
theorem dd_Mod_freeWords_29 : Db mi_Mod_freeWords 29 (.goto 4) 4 32 33 := ⟨by decide +kernel, rfl, rfl⟩
theorem dd_Mod_freeWords_32 : Dc mi_Mod_freeWords 32 (.iconst 0) 1 33 := ⟨by decide +kernel, rfl⟩
theorem dd_Mod_freeWords_33 : Dc mi_Mod_freeWords 33 (.iadd) 1 34 := ⟨by decide +kernel, rfl⟩
theorem dd_Mod_freeWords_34 : Dc mi_Mod_freeWords 34 (.istore_n 1) 1 35 := ⟨by decide +kernel, rfl⟩
theorem dd_Mod_freeWords_35 : Dc mi_Mod_freeWords 35 (.iinc 2 1) 3 38 := ⟨by decide +kernel, rfl⟩
theorem dd_Mod_freeWords_38 : Db mi_Mod_freeWords 38 (.goto (-34)) (-34) 41 4 := ⟨by decide +kernel, rfl, rfl⟩
theorem dd_Mod_freeWords_41 : Dc mi_Mod_freeWords 41 (.iload_n 1) 1 42 := ⟨by decide +kernel, rfl⟩
theorem dd_Mod_freeWords_42 : decode (mbc mi_Mod_freeWords) 42 = .ok (retI (mrt mi_Mod_freeWords), 1) := by decide +kernel
end
section
/-! decode rows, printed by wip/whole/gen_dec.py -/
theorem dd_Law_law_0 : Dc mi_Law_law 0 (.new 7) 3 3 := ⟨by decide +kernel, rfl⟩
theorem dd_Law_law_3 : Dc mi_Law_law 3 (.dup) 1 4 := ⟨by decide +kernel, rfl⟩
theorem dd_Law_law_4 : Dc mi_Law_law 4 (.invokespecial 9) 3 7 := ⟨by decide +kernel, rfl⟩
theorem dd_Law_law_7 : Dc mi_Law_law 7 (.astore_n 1) 1 8 := ⟨by decide +kernel, rfl⟩
theorem dd_Law_law_8 : Dc mi_Law_law 8 (.new 10) 3 11 := ⟨by decide +kernel, rfl⟩
theorem dd_Law_law_11 : Dc mi_Law_law 11 (.dup) 1 12 := ⟨by decide +kernel, rfl⟩
theorem dd_Law_law_12 : Dc mi_Law_law 12 (.invokespecial 12) 3 15 := ⟨by decide +kernel, rfl⟩
theorem dd_Law_law_15 : Dc mi_Law_law 15 (.astore_n 2) 1 16 := ⟨by decide +kernel, rfl⟩
theorem dd_Law_law_16 : Dc mi_Law_law 16 (.iconst 0) 1 17 := ⟨by decide +kernel, rfl⟩
theorem dd_Law_law_17 : Dc mi_Law_law 17 (.istore_n 3) 1 18 := ⟨by decide +kernel, rfl⟩
theorem dd_Law_law_18 : Dc mi_Law_law 18 (.iload_n 3) 1 19 := ⟨by decide +kernel, rfl⟩
theorem dd_Law_law_19 : Dc mi_Law_law 19 (.aload_n 0) 1 20 := ⟨by decide +kernel, rfl⟩
theorem dd_Law_law_20 : Dc mi_Law_law 20 (.arraylength) 1 21 := ⟨by decide +kernel, rfl⟩
theorem dd_Law_law_21 : Dc mi_Law_law 21 (.iconst 5) 1 22 := ⟨by decide +kernel, rfl⟩
theorem dd_Law_law_22 : Dc mi_Law_law 22 (.isub) 1 23 := ⟨by decide +kernel, rfl⟩
theorem dd_Law_law_23 : Db mi_Law_law 23 (.if_icmp .gt 784) 784 26 807 := ⟨by decide +kernel, rfl, rfl⟩
theorem dd_Law_law_26 : Dc mi_Law_law 26 (.aload_n 0) 1 27 := ⟨by decide +kernel, rfl⟩
theorem dd_Law_law_27 : Dc mi_Law_law 27 (.iload_n 3) 1 28 := ⟨by decide +kernel, rfl⟩
theorem dd_Law_law_28 : Dc mi_Law_law 28 (.iaload) 1 29 := ⟨by decide +kernel, rfl⟩
theorem dd_Law_law_29 : Dc mi_Law_law 29 (.bipush 31) 2 31 := ⟨by decide +kernel, rfl⟩
theorem dd_Law_law_31 : Dc mi_Law_law 31 (.iand) 1 32 := ⟨by decide +kernel, rfl⟩
theorem dd_Law_law_32 : decode (mbc mi_Law_law) 32 = .ok (.tableswitch 769 0 24 #[116, 149, 182, 235, 258, 307, 340, 363, 386, 399, 424, 437, 450, 473, 486, 499, 512, 545, 578, 611, 644, 667, 690, 713, 746], 116) := by decide +kernel
theorem dd_Law_law_148 : Dc mi_Law_law 148 (.aload_n 1) 1 149 := ⟨by decide +kernel, rfl⟩
theorem dd_Law_law_149 : Dc mi_Law_law 149 (.aload_n 0) 1 150 := ⟨by decide +kernel, rfl⟩
theorem dd_Law_law_150 : Dc mi_Law_law 150 (.iload_n 3) 1 151 := ⟨by decide +kernel, rfl⟩
theorem dd_Law_law_151 : Dc mi_Law_law 151 (.iconst 1) 1 152 := ⟨by decide +kernel, rfl⟩
theorem dd_Law_law_152 : Dc mi_Law_law 152 (.iadd) 1 153 := ⟨by decide +kernel, rfl⟩
theorem dd_Law_law_153 : Dc mi_Law_law 153 (.iaload) 1 154 := ⟨by decide +kernel, rfl⟩
theorem dd_Law_law_154 : Dc mi_Law_law 154 (.aload_n 0) 1 155 := ⟨by decide +kernel, rfl⟩
theorem dd_Law_law_155 : Dc mi_Law_law 155 (.iload_n 3) 1 156 := ⟨by decide +kernel, rfl⟩
theorem dd_Law_law_156 : Dc mi_Law_law 156 (.iconst 2) 1 157 := ⟨by decide +kernel, rfl⟩
theorem dd_Law_law_157 : Dc mi_Law_law 157 (.iadd) 1 158 := ⟨by decide +kernel, rfl⟩
theorem dd_Law_law_158 : Dc mi_Law_law 158 (.iaload) 1 159 := ⟨by decide +kernel, rfl⟩
theorem dd_Law_law_159 : Dc mi_Law_law 159 (.invokevirtual 13) 3 162 := ⟨by decide +kernel, rfl⟩
theorem dd_Law_law_162 : Dc mi_Law_law 162 (.aload_n 2) 1 163 := ⟨by decide +kernel, rfl⟩
theorem dd_Law_law_163 : Dc mi_Law_law 163 (.aload_n 0) 1 164 := ⟨by decide +kernel, rfl⟩
theorem dd_Law_law_164 : Dc mi_Law_law 164 (.iload_n 3) 1 165 := ⟨by decide +kernel, rfl⟩
theorem dd_Law_law_165 : Dc mi_Law_law 165 (.iconst 1) 1 166 := ⟨by decide +kernel, rfl⟩
theorem dd_Law_law_166 : Dc mi_Law_law 166 (.iadd) 1 167 := ⟨by decide +kernel, rfl⟩
theorem dd_Law_law_167 : Dc mi_Law_law 167 (.iaload) 1 168 := ⟨by decide +kernel, rfl⟩
theorem dd_Law_law_168 : Dc mi_Law_law 168 (.aload_n 0) 1 169 := ⟨by decide +kernel, rfl⟩
theorem dd_Law_law_169 : Dc mi_Law_law 169 (.iload_n 3) 1 170 := ⟨by decide +kernel, rfl⟩
theorem dd_Law_law_170 : Dc mi_Law_law 170 (.iconst 2) 1 171 := ⟨by decide +kernel, rfl⟩
theorem dd_Law_law_171 : Dc mi_Law_law 171 (.iadd) 1 172 := ⟨by decide +kernel, rfl⟩
theorem dd_Law_law_172 : Dc mi_Law_law 172 (.iaload) 1 173 := ⟨by decide +kernel, rfl⟩
theorem dd_Law_law_173 : Dc mi_Law_law 173 (.invokevirtual 17) 3 176 := ⟨by decide +kernel, rfl⟩
theorem dd_Law_law_176 : Db mi_Law_law 176 (.if_icmp .eq 625) 625 179 801 := ⟨by decide +kernel, rfl, rfl⟩
theorem dd_Law_law_179 : Dc mi_Law_law 179 (.iconst 0) 1 180 := ⟨by decide +kernel, rfl⟩
theorem dd_Law_law_180 : decode (mbc mi_Law_law) 180 = .ok (retI (mrt mi_Law_law), 1) := by decide +kernel
theorem dd_Law_law_181 : Dc mi_Law_law 181 (.aload_n 1) 1 182 := ⟨by decide +kernel, rfl⟩
theorem dd_Law_law_182 : Dc mi_Law_law 182 (.aload_n 0) 1 183 := ⟨by decide +kernel, rfl⟩
theorem dd_Law_law_183 : Dc mi_Law_law 183 (.iload_n 3) 1 184 := ⟨by decide +kernel, rfl⟩
theorem dd_Law_law_184 : Dc mi_Law_law 184 (.iconst 1) 1 185 := ⟨by decide +kernel, rfl⟩
theorem dd_Law_law_185 : Dc mi_Law_law 185 (.iadd) 1 186 := ⟨by decide +kernel, rfl⟩
theorem dd_Law_law_186 : Dc mi_Law_law 186 (.iaload) 1 187 := ⟨by decide +kernel, rfl⟩
theorem dd_Law_law_187 : Dc mi_Law_law 187 (.aload_n 0) 1 188 := ⟨by decide +kernel, rfl⟩
theorem dd_Law_law_188 : Dc mi_Law_law 188 (.iload_n 3) 1 189 := ⟨by decide +kernel, rfl⟩
theorem dd_Law_law_189 : Dc mi_Law_law 189 (.iconst 2) 1 190 := ⟨by decide +kernel, rfl⟩
theorem dd_Law_law_190 : Dc mi_Law_law 190 (.iadd) 1 191 := ⟨by decide +kernel, rfl⟩
theorem dd_Law_law_191 : Dc mi_Law_law 191 (.iaload) 1 192 := ⟨by decide +kernel, rfl⟩
theorem dd_Law_law_192 : Dc mi_Law_law 192 (.invokevirtual 18) 3 195 := ⟨by decide +kernel, rfl⟩
theorem dd_Law_law_195 : Dc mi_Law_law 195 (.aload_n 2) 1 196 := ⟨by decide +kernel, rfl⟩
theorem dd_Law_law_196 : Dc mi_Law_law 196 (.aload_n 0) 1 197 := ⟨by decide +kernel, rfl⟩
theorem dd_Law_law_197 : Dc mi_Law_law 197 (.iload_n 3) 1 198 := ⟨by decide +kernel, rfl⟩
theorem dd_Law_law_198 : Dc mi_Law_law 198 (.iconst 1) 1 199 := ⟨by decide +kernel, rfl⟩
theorem dd_Law_law_199 : Dc mi_Law_law 199 (.iadd) 1 200 := ⟨by decide +kernel, rfl⟩
theorem dd_Law_law_200 : Dc mi_Law_law 200 (.iaload) 1 201 := ⟨by decide +kernel, rfl⟩
theorem dd_Law_law_201 : Dc mi_Law_law 201 (.aload_n 0) 1 202 := ⟨by decide +kernel, rfl⟩
theorem dd_Law_law_202 : Dc mi_Law_law 202 (.iload_n 3) 1 203 := ⟨by decide +kernel, rfl⟩
theorem dd_Law_law_203 : Dc mi_Law_law 203 (.iconst 2) 1 204 := ⟨by decide +kernel, rfl⟩
theorem dd_Law_law_204 : Dc mi_Law_law 204 (.iadd) 1 205 := ⟨by decide +kernel, rfl⟩
theorem dd_Law_law_205 : Dc mi_Law_law 205 (.iaload) 1 206 := ⟨by decide +kernel, rfl⟩
theorem dd_Law_law_206 : Dc mi_Law_law 206 (.invokevirtual 21) 3 209 := ⟨by decide +kernel, rfl⟩
theorem dd_Law_law_209 : Db mi_Law_law 209 (.if_icmp .eq 592) 592 212 801 := ⟨by decide +kernel, rfl, rfl⟩
theorem dd_Law_law_212 : Dc mi_Law_law 212 (.iconst 0) 1 213 := ⟨by decide +kernel, rfl⟩
theorem dd_Law_law_213 : decode (mbc mi_Law_law) 213 = .ok (retI (mrt mi_Law_law), 1) := by decide +kernel
theorem dd_Law_law_214 : Dc mi_Law_law 214 (.aload_n 1) 1 215 := ⟨by decide +kernel, rfl⟩
theorem dd_Law_law_215 : Dc mi_Law_law 215 (.aload_n 0) 1 216 := ⟨by decide +kernel, rfl⟩
theorem dd_Law_law_216 : Dc mi_Law_law 216 (.iload_n 3) 1 217 := ⟨by decide +kernel, rfl⟩
theorem dd_Law_law_217 : Dc mi_Law_law 217 (.iconst 1) 1 218 := ⟨by decide +kernel, rfl⟩
theorem dd_Law_law_218 : Dc mi_Law_law 218 (.iadd) 1 219 := ⟨by decide +kernel, rfl⟩
theorem dd_Law_law_219 : Dc mi_Law_law 219 (.iaload) 1 220 := ⟨by decide +kernel, rfl⟩
theorem dd_Law_law_220 : Dc mi_Law_law 220 (.aload_n 0) 1 221 := ⟨by decide +kernel, rfl⟩
theorem dd_Law_law_221 : Dc mi_Law_law 221 (.iload_n 3) 1 222 := ⟨by decide +kernel, rfl⟩
theorem dd_Law_law_222 : Dc mi_Law_law 222 (.iconst 2) 1 223 := ⟨by decide +kernel, rfl⟩
theorem dd_Law_law_223 : Dc mi_Law_law 223 (.iadd) 1 224 := ⟨by decide +kernel, rfl⟩
theorem dd_Law_law_224 : Dc mi_Law_law 224 (.iaload) 1 225 := ⟨by decide +kernel, rfl⟩
theorem dd_Law_law_225 : Dc mi_Law_law 225 (.aload_n 0) 1 226 := ⟨by decide +kernel, rfl⟩
theorem dd_Law_law_226 : Dc mi_Law_law 226 (.iload_n 3) 1 227 := ⟨by decide +kernel, rfl⟩
theorem dd_Law_law_227 : Dc mi_Law_law 227 (.iconst 3) 1 228 := ⟨by decide +kernel, rfl⟩
theorem dd_Law_law_228 : Dc mi_Law_law 228 (.iadd) 1 229 := ⟨by decide +kernel, rfl⟩
theorem dd_Law_law_229 : Dc mi_Law_law 229 (.iaload) 1 230 := ⟨by decide +kernel, rfl⟩
theorem dd_Law_law_230 : Dc mi_Law_law 230 (.aload_n 0) 1 231 := ⟨by decide +kernel, rfl⟩
theorem dd_Law_law_231 : Dc mi_Law_law 231 (.iload_n 3) 1 232 := ⟨by decide +kernel, rfl⟩
theorem dd_Law_law_232 : Dc mi_Law_law 232 (.iconst 4) 1 233 := ⟨by decide +kernel, rfl⟩
theorem dd_Law_law_233 : Dc mi_Law_law 233 (.iadd) 1 234 := ⟨by decide +kernel, rfl⟩
theorem dd_Law_law_234 : Dc mi_Law_law 234 (.iaload) 1 235 := ⟨by decide +kernel, rfl⟩
theorem dd_Law_law_235 : Dc mi_Law_law 235 (.invokevirtual 22) 3 238 := ⟨by decide +kernel, rfl⟩
theorem dd_Law_law_238 : Dc mi_Law_law 238 (.aload_n 2) 1 239 := ⟨by decide +kernel, rfl⟩
theorem dd_Law_law_239 : Dc mi_Law_law 239 (.aload_n 0) 1 240 := ⟨by decide +kernel, rfl⟩
theorem dd_Law_law_240 : Dc mi_Law_law 240 (.iload_n 3) 1 241 := ⟨by decide +kernel, rfl⟩
theorem dd_Law_law_241 : Dc mi_Law_law 241 (.iconst 1) 1 242 := ⟨by decide +kernel, rfl⟩
theorem dd_Law_law_242 : Dc mi_Law_law 242 (.iadd) 1 243 := ⟨by decide +kernel, rfl⟩
theorem dd_Law_law_243 : Dc mi_Law_law 243 (.iaload) 1 244 := ⟨by decide +kernel, rfl⟩
theorem dd_Law_law_244 : Dc mi_Law_law 244 (.aload_n 0) 1 245 := ⟨by decide +kernel, rfl⟩
theorem dd_Law_law_245 : Dc mi_Law_law 245 (.iload_n 3) 1 246 := ⟨by decide +kernel, rfl⟩
theorem dd_Law_law_246 : Dc mi_Law_law 246 (.iconst 2) 1 247 := ⟨by decide +kernel, rfl⟩
theorem dd_Law_law_247 : Dc mi_Law_law 247 (.iadd) 1 248 := ⟨by decide +kernel, rfl⟩
theorem dd_Law_law_248 : Dc mi_Law_law 248 (.iaload) 1 249 := ⟨by decide +kernel, rfl⟩
theorem dd_Law_law_249 : Dc mi_Law_law 249 (.aload_n 0) 1 250 := ⟨by decide +kernel, rfl⟩
theorem dd_Law_law_250 : Dc mi_Law_law 250 (.iload_n 3) 1 251 := ⟨by decide +kernel, rfl⟩
theorem dd_Law_law_251 : Dc mi_Law_law 251 (.iconst 3) 1 252 := ⟨by decide +kernel, rfl⟩
theorem dd_Law_law_252 : Dc mi_Law_law 252 (.iadd) 1 253 := ⟨by decide +kernel, rfl⟩
theorem dd_Law_law_253 : Dc mi_Law_law 253 (.iaload) 1 254 := ⟨by decide +kernel, rfl⟩
theorem dd_Law_law_254 : Dc mi_Law_law 254 (.aload_n 0) 1 255 := ⟨by decide +kernel, rfl⟩
theorem dd_Law_law_255 : Dc mi_Law_law 255 (.iload_n 3) 1 256 := ⟨by decide +kernel, rfl⟩
theorem dd_Law_law_256 : Dc mi_Law_law 256 (.iconst 4) 1 257 := ⟨by decide +kernel, rfl⟩
theorem dd_Law_law_257 : Dc mi_Law_law 257 (.iadd) 1 258 := ⟨by decide +kernel, rfl⟩
theorem dd_Law_law_258 : Dc mi_Law_law 258 (.iaload) 1 259 := ⟨by decide +kernel, rfl⟩
theorem dd_Law_law_259 : Dc mi_Law_law 259 (.invokevirtual 26) 3 262 := ⟨by decide +kernel, rfl⟩
theorem dd_Law_law_262 : Db mi_Law_law 262 (.if_icmp .eq 539) 539 265 801 := ⟨by decide +kernel, rfl, rfl⟩
theorem dd_Law_law_265 : Dc mi_Law_law 265 (.iconst 0) 1 266 := ⟨by decide +kernel, rfl⟩
theorem dd_Law_law_266 : decode (mbc mi_Law_law) 266 = .ok (retI (mrt mi_Law_law), 1) := by decide +kernel
theorem dd_Law_law_267 : Dc mi_Law_law 267 (.aload_n 1) 1 268 := ⟨by decide +kernel, rfl⟩
theorem dd_Law_law_268 : Dc mi_Law_law 268 (.aload_n 0) 1 269 := ⟨by decide +kernel, rfl⟩
theorem dd_Law_law_269 : Dc mi_Law_law 269 (.iload_n 3) 1 270 := ⟨by decide +kernel, rfl⟩
theorem dd_Law_law_270 : Dc mi_Law_law 270 (.iconst 1) 1 271 := ⟨by decide +kernel, rfl⟩
theorem dd_Law_law_271 : Dc mi_Law_law 271 (.iadd) 1 272 := ⟨by decide +kernel, rfl⟩
theorem dd_Law_law_272 : Dc mi_Law_law 272 (.iaload) 1 273 := ⟨by decide +kernel, rfl⟩
theorem dd_Law_law_273 : Dc mi_Law_law 273 (.invokevirtual 27) 3 276 := ⟨by decide +kernel, rfl⟩
theorem dd_Law_law_276 : Dc mi_Law_law 276 (.aload_n 2) 1 277 := ⟨by decide +kernel, rfl⟩
theorem dd_Law_law_277 : Dc mi_Law_law 277 (.aload_n 0) 1 278 := ⟨by decide +kernel, rfl⟩
theorem dd_Law_law_278 : Dc mi_Law_law 278 (.iload_n 3) 1 279 := ⟨by decide +kernel, rfl⟩
theorem dd_Law_law_279 : Dc mi_Law_law 279 (.iconst 1) 1 280 := ⟨by decide +kernel, rfl⟩
theorem dd_Law_law_280 : Dc mi_Law_law 280 (.iadd) 1 281 := ⟨by decide +kernel, rfl⟩
theorem dd_Law_law_281 : Dc mi_Law_law 281 (.iaload) 1 282 := ⟨by decide +kernel, rfl⟩
theorem dd_Law_law_282 : Dc mi_Law_law 282 (.invokevirtual 31) 3 285 := ⟨by decide +kernel, rfl⟩
theorem dd_Law_law_285 : Db mi_Law_law 285 (.if_icmp .eq 516) 516 288 801 := ⟨by decide +kernel, rfl, rfl⟩
theorem dd_Law_law_288 : Dc mi_Law_law 288 (.iconst 0) 1 289 := ⟨by decide +kernel, rfl⟩
theorem dd_Law_law_289 : decode (mbc mi_Law_law) 289 = .ok (retI (mrt mi_Law_law), 1) := by decide +kernel
theorem dd_Law_law_290 : Dc mi_Law_law 290 (.aload_n 1) 1 291 := ⟨by decide +kernel, rfl⟩
theorem dd_Law_law_291 : Dc mi_Law_law 291 (.aload_n 0) 1 292 := ⟨by decide +kernel, rfl⟩
theorem dd_Law_law_292 : Dc mi_Law_law 292 (.iload_n 3) 1 293 := ⟨by decide +kernel, rfl⟩
theorem dd_Law_law_293 : Dc mi_Law_law 293 (.iconst 1) 1 294 := ⟨by decide +kernel, rfl⟩
theorem dd_Law_law_294 : Dc mi_Law_law 294 (.iadd) 1 295 := ⟨by decide +kernel, rfl⟩
theorem dd_Law_law_295 : Dc mi_Law_law 295 (.iaload) 1 296 := ⟨by decide +kernel, rfl⟩
theorem dd_Law_law_296 : Dc mi_Law_law 296 (.aload_n 0) 1 297 := ⟨by decide +kernel, rfl⟩
theorem dd_Law_law_297 : Dc mi_Law_law 297 (.iload_n 3) 1 298 := ⟨by decide +kernel, rfl⟩
theorem dd_Law_law_298 : Dc mi_Law_law 298 (.iconst 2) 1 299 := ⟨by decide +kernel, rfl⟩
theorem dd_Law_law_299 : Dc mi_Law_law 299 (.iadd) 1 300 := ⟨by decide +kernel, rfl⟩
theorem dd_Law_law_300 : Dc mi_Law_law 300 (.iaload) 1 301 := ⟨by decide +kernel, rfl⟩
theorem dd_Law_law_301 : Db mi_Law_law 301 (.ifCond .eq 7) 7 304 308 := ⟨by decide +kernel, rfl, rfl⟩
theorem dd_Law_law_304 : Dc mi_Law_law 304 (.iconst 1) 1 305 := ⟨by decide +kernel, rfl⟩
theorem dd_Law_law_305 : Db mi_Law_law 305 (.goto 4) 4 308 309 := ⟨by decide +kernel, rfl, rfl⟩
theorem dd_Law_law_308 : Dc mi_Law_law 308 (.iconst 0) 1 309 := ⟨by decide +kernel, rfl⟩
theorem dd_Law_law_309 : Dc mi_Law_law 309 (.invokevirtual 32) 3 312 := ⟨by decide +kernel, rfl⟩
theorem dd_Law_law_312 : Dc mi_Law_law 312 (.aload_n 2) 1 313 := ⟨by decide +kernel, rfl⟩
theorem dd_Law_law_313 : Dc mi_Law_law 313 (.aload_n 0) 1 314 := ⟨by decide +kernel, rfl⟩
theorem dd_Law_law_314 : Dc mi_Law_law 314 (.iload_n 3) 1 315 := ⟨by decide +kernel, rfl⟩
theorem dd_Law_law_315 : Dc mi_Law_law 315 (.iconst 1) 1 316 := ⟨by decide +kernel, rfl⟩
theorem dd_Law_law_316 : Dc mi_Law_law 316 (.iadd) 1 317 := ⟨by decide +kernel, rfl⟩
theorem dd_Law_law_317 : Dc mi_Law_law 317 (.iaload) 1 318 := ⟨by decide +kernel, rfl⟩
theorem dd_Law_law_318 : Dc mi_Law_law 318 (.aload_n 0) 1 319 := ⟨by decide +kernel, rfl⟩
theorem dd_Law_law_319 : Dc mi_Law_law 319 (.iload_n 3) 1 320 := ⟨by decide +kernel, rfl⟩
theorem dd_Law_law_320 : Dc mi_Law_law 320 (.iconst 2) 1 321 := ⟨by decide +kernel, rfl⟩
theorem dd_Law_law_321 : Dc mi_Law_law 321 (.iadd) 1 322 := ⟨by decide +kernel, rfl⟩
theorem dd_Law_law_322 : Dc mi_Law_law 322 (.iaload) 1 323 := ⟨by decide +kernel, rfl⟩
theorem dd_Law_law_323 : Db mi_Law_law 323 (.ifCond .eq 7) 7 326 330 := ⟨by decide +kernel, rfl, rfl⟩
theorem dd_Law_law_326 : Dc mi_Law_law 326 (.iconst 1) 1 327 := ⟨by decide +kernel, rfl⟩
theorem dd_Law_law_327 : Db mi_Law_law 327 (.goto 4) 4 330 331 := ⟨by decide +kernel, rfl, rfl⟩
theorem dd_Law_law_330 : Dc mi_Law_law 330 (.iconst 0) 1 331 := ⟨by decide +kernel, rfl⟩
theorem dd_Law_law_331 : Dc mi_Law_law 331 (.invokevirtual 36) 3 334 := ⟨by decide +kernel, rfl⟩
theorem dd_Law_law_334 : Db mi_Law_law 334 (.if_icmp .eq 467) 467 337 801 := ⟨by decide +kernel, rfl, rfl⟩
theorem dd_Law_law_337 : Dc mi_Law_law 337 (.iconst 0) 1 338 := ⟨by decide +kernel, rfl⟩
theorem dd_Law_law_338 : decode (mbc mi_Law_law) 338 = .ok (retI (mrt mi_Law_law), 1) := by decide +kernel
theorem dd_Law_law_339 : Dc mi_Law_law 339 (.aload_n 1) 1 340 := ⟨by decide +kernel, rfl⟩
theorem dd_Law_law_340 : Dc mi_Law_law 340 (.aload_n 0) 1 341 := ⟨by decide +kernel, rfl⟩
theorem dd_Law_law_341 : Dc mi_Law_law 341 (.iload_n 3) 1 342 := ⟨by decide +kernel, rfl⟩
theorem dd_Law_law_342 : Dc mi_Law_law 342 (.iconst 1) 1 343 := ⟨by decide +kernel, rfl⟩
theorem dd_Law_law_343 : Dc mi_Law_law 343 (.iadd) 1 344 := ⟨by decide +kernel, rfl⟩
theorem dd_Law_law_344 : Dc mi_Law_law 344 (.iaload) 1 345 := ⟨by decide +kernel, rfl⟩
theorem dd_Law_law_345 : Dc mi_Law_law 345 (.aload_n 0) 1 346 := ⟨by decide +kernel, rfl⟩
theorem dd_Law_law_346 : Dc mi_Law_law 346 (.iload_n 3) 1 347 := ⟨by decide +kernel, rfl⟩
theorem dd_Law_law_347 : Dc mi_Law_law 347 (.iconst 2) 1 348 := ⟨by decide +kernel, rfl⟩
theorem dd_Law_law_348 : Dc mi_Law_law 348 (.iadd) 1 349 := ⟨by decide +kernel, rfl⟩
theorem dd_Law_law_349 : Dc mi_Law_law 349 (.iaload) 1 350 := ⟨by decide +kernel, rfl⟩
theorem dd_Law_law_350 : Dc mi_Law_law 350 (.invokevirtual 37) 3 353 := ⟨by decide +kernel, rfl⟩
theorem dd_Law_law_353 : Dc mi_Law_law 353 (.aload_n 2) 1 354 := ⟨by decide +kernel, rfl⟩
theorem dd_Law_law_354 : Dc mi_Law_law 354 (.aload_n 0) 1 355 := ⟨by decide +kernel, rfl⟩
theorem dd_Law_law_355 : Dc mi_Law_law 355 (.iload_n 3) 1 356 := ⟨by decide +kernel, rfl⟩
theorem dd_Law_law_356 : Dc mi_Law_law 356 (.iconst 1) 1 357 := ⟨by decide +kernel, rfl⟩
theorem dd_Law_law_357 : Dc mi_Law_law 357 (.iadd) 1 358 := ⟨by decide +kernel, rfl⟩
theorem dd_Law_law_358 : Dc mi_Law_law 358 (.iaload) 1 359 := ⟨by decide +kernel, rfl⟩
theorem dd_Law_law_359 : Dc mi_Law_law 359 (.aload_n 0) 1 360 := ⟨by decide +kernel, rfl⟩
theorem dd_Law_law_360 : Dc mi_Law_law 360 (.iload_n 3) 1 361 := ⟨by decide +kernel, rfl⟩
theorem dd_Law_law_361 : Dc mi_Law_law 361 (.iconst 2) 1 362 := ⟨by decide +kernel, rfl⟩
theorem dd_Law_law_362 : Dc mi_Law_law 362 (.iadd) 1 363 := ⟨by decide +kernel, rfl⟩
theorem dd_Law_law_363 : Dc mi_Law_law 363 (.iaload) 1 364 := ⟨by decide +kernel, rfl⟩
theorem dd_Law_law_364 : Dc mi_Law_law 364 (.invokevirtual 40) 3 367 := ⟨by decide +kernel, rfl⟩
theorem dd_Law_law_367 : Db mi_Law_law 367 (.if_icmp .eq 434) 434 370 801 := ⟨by decide +kernel, rfl, rfl⟩
theorem dd_Law_law_370 : Dc mi_Law_law 370 (.iconst 0) 1 371 := ⟨by decide +kernel, rfl⟩
theorem dd_Law_law_371 : decode (mbc mi_Law_law) 371 = .ok (retI (mrt mi_Law_law), 1) := by decide +kernel
theorem dd_Law_law_372 : Dc mi_Law_law 372 (.aload_n 1) 1 373 := ⟨by decide +kernel, rfl⟩
theorem dd_Law_law_373 : Dc mi_Law_law 373 (.aload_n 0) 1 374 := ⟨by decide +kernel, rfl⟩
theorem dd_Law_law_374 : Dc mi_Law_law 374 (.iload_n 3) 1 375 := ⟨by decide +kernel, rfl⟩
theorem dd_Law_law_375 : Dc mi_Law_law 375 (.iconst 1) 1 376 := ⟨by decide +kernel, rfl⟩
theorem dd_Law_law_376 : Dc mi_Law_law 376 (.iadd) 1 377 := ⟨by decide +kernel, rfl⟩
theorem dd_Law_law_377 : Dc mi_Law_law 377 (.iaload) 1 378 := ⟨by decide +kernel, rfl⟩
theorem dd_Law_law_378 : Dc mi_Law_law 378 (.invokevirtual 41) 3 381 := ⟨by decide +kernel, rfl⟩
theorem dd_Law_law_381 : Dc mi_Law_law 381 (.aload_n 2) 1 382 := ⟨by decide +kernel, rfl⟩
theorem dd_Law_law_382 : Dc mi_Law_law 382 (.aload_n 0) 1 383 := ⟨by decide +kernel, rfl⟩
theorem dd_Law_law_383 : Dc mi_Law_law 383 (.iload_n 3) 1 384 := ⟨by decide +kernel, rfl⟩
theorem dd_Law_law_384 : Dc mi_Law_law 384 (.iconst 1) 1 385 := ⟨by decide +kernel, rfl⟩
theorem dd_Law_law_385 : Dc mi_Law_law 385 (.iadd) 1 386 := ⟨by decide +kernel, rfl⟩
theorem dd_Law_law_386 : Dc mi_Law_law 386 (.iaload) 1 387 := ⟨by decide +kernel, rfl⟩
theorem dd_Law_law_387 : Dc mi_Law_law 387 (.invokevirtual 44) 3 390 := ⟨by decide +kernel, rfl⟩
theorem dd_Law_law_390 : Db mi_Law_law 390 (.if_icmp .eq 411) 411 393 801 := ⟨by decide +kernel, rfl, rfl⟩
theorem dd_Law_law_393 : Dc mi_Law_law 393 (.iconst 0) 1 394 := ⟨by decide +kernel, rfl⟩
theorem dd_Law_law_394 : decode (mbc mi_Law_law) 394 = .ok (retI (mrt mi_Law_law), 1) := by decide +kernel
theorem dd_Law_law_395 : Dc mi_Law_law 395 (.aload_n 1) 1 396 := ⟨by decide +kernel, rfl⟩
theorem dd_Law_law_396 : Dc mi_Law_law 396 (.aload_n 0) 1 397 := ⟨by decide +kernel, rfl⟩
theorem dd_Law_law_397 : Dc mi_Law_law 397 (.iload_n 3) 1 398 := ⟨by decide +kernel, rfl⟩
theorem dd_Law_law_398 : Dc mi_Law_law 398 (.iconst 1) 1 399 := ⟨by decide +kernel, rfl⟩
theorem dd_Law_law_399 : Dc mi_Law_law 399 (.iadd) 1 400 := ⟨by decide +kernel, rfl⟩
theorem dd_Law_law_400 : Dc mi_Law_law 400 (.iaload) 1 401 := ⟨by decide +kernel, rfl⟩
theorem dd_Law_law_401 : Dc mi_Law_law 401 (.invokevirtual 45) 3 404 := ⟨by decide +kernel, rfl⟩
theorem dd_Law_law_404 : Dc mi_Law_law 404 (.aload_n 2) 1 405 := ⟨by decide +kernel, rfl⟩
theorem dd_Law_law_405 : Dc mi_Law_law 405 (.aload_n 0) 1 406 := ⟨by decide +kernel, rfl⟩
theorem dd_Law_law_406 : Dc mi_Law_law 406 (.iload_n 3) 1 407 := ⟨by decide +kernel, rfl⟩
theorem dd_Law_law_407 : Dc mi_Law_law 407 (.iconst 1) 1 408 := ⟨by decide +kernel, rfl⟩
theorem dd_Law_law_408 : Dc mi_Law_law 408 (.iadd) 1 409 := ⟨by decide +kernel, rfl⟩
theorem dd_Law_law_409 : Dc mi_Law_law 409 (.iaload) 1 410 := ⟨by decide +kernel, rfl⟩
theorem dd_Law_law_410 : Dc mi_Law_law 410 (.invokevirtual 48) 3 413 := ⟨by decide +kernel, rfl⟩
theorem dd_Law_law_413 : Db mi_Law_law 413 (.if_icmp .eq 388) 388 416 801 := ⟨by decide +kernel, rfl, rfl⟩
theorem dd_Law_law_416 : Dc mi_Law_law 416 (.iconst 0) 1 417 := ⟨by decide +kernel, rfl⟩
theorem dd_Law_law_417 : decode (mbc mi_Law_law) 417 = .ok (retI (mrt mi_Law_law), 1) := by decide +kernel
theorem dd_Law_law_418 : Dc mi_Law_law 418 (.aload_n 1) 1 419 := ⟨by decide +kernel, rfl⟩
theorem dd_Law_law_419 : Dc mi_Law_law 419 (.invokevirtual 49) 3 422 := ⟨by decide +kernel, rfl⟩
theorem dd_Law_law_422 : Dc mi_Law_law 422 (.aload_n 2) 1 423 := ⟨by decide +kernel, rfl⟩
theorem dd_Law_law_423 : Dc mi_Law_law 423 (.invokevirtual 53) 3 426 := ⟨by decide +kernel, rfl⟩
theorem dd_Law_law_426 : Db mi_Law_law 426 (.if_icmp .eq 375) 375 429 801 := ⟨by decide +kernel, rfl, rfl⟩
theorem dd_Law_law_429 : Dc mi_Law_law 429 (.iconst 0) 1 430 := ⟨by decide +kernel, rfl⟩
theorem dd_Law_law_430 : decode (mbc mi_Law_law) 430 = .ok (retI (mrt mi_Law_law), 1) := by decide +kernel
theorem dd_Law_law_431 : Dc mi_Law_law 431 (.aload_n 1) 1 432 := ⟨by decide +kernel, rfl⟩
theorem dd_Law_law_432 : Dc mi_Law_law 432 (.aload_n 0) 1 433 := ⟨by decide +kernel, rfl⟩
theorem dd_Law_law_433 : Dc mi_Law_law 433 (.iload_n 3) 1 434 := ⟨by decide +kernel, rfl⟩
theorem dd_Law_law_434 : Dc mi_Law_law 434 (.iconst 1) 1 435 := ⟨by decide +kernel, rfl⟩
theorem dd_Law_law_435 : Dc mi_Law_law 435 (.iadd) 1 436 := ⟨by decide +kernel, rfl⟩
theorem dd_Law_law_436 : Dc mi_Law_law 436 (.iaload) 1 437 := ⟨by decide +kernel, rfl⟩
theorem dd_Law_law_437 : Dc mi_Law_law 437 (.i2c) 1 438 := ⟨by decide +kernel, rfl⟩
theorem dd_Law_law_438 : Dc mi_Law_law 438 (.invokevirtual 54) 3 441 := ⟨by decide +kernel, rfl⟩
theorem dd_Law_law_441 : Dc mi_Law_law 441 (.aload_n 2) 1 442 := ⟨by decide +kernel, rfl⟩
theorem dd_Law_law_442 : Dc mi_Law_law 442 (.aload_n 0) 1 443 := ⟨by decide +kernel, rfl⟩
theorem dd_Law_law_443 : Dc mi_Law_law 443 (.iload_n 3) 1 444 := ⟨by decide +kernel, rfl⟩
theorem dd_Law_law_444 : Dc mi_Law_law 444 (.iconst 1) 1 445 := ⟨by decide +kernel, rfl⟩
theorem dd_Law_law_445 : Dc mi_Law_law 445 (.iadd) 1 446 := ⟨by decide +kernel, rfl⟩
theorem dd_Law_law_446 : Dc mi_Law_law 446 (.iaload) 1 447 := ⟨by decide +kernel, rfl⟩
theorem dd_Law_law_447 : Dc mi_Law_law 447 (.i2c) 1 448 := ⟨by decide +kernel, rfl⟩
theorem dd_Law_law_448 : Dc mi_Law_law 448 (.invokevirtual 58) 3 451 := ⟨by decide +kernel, rfl⟩
theorem dd_Law_law_451 : Db mi_Law_law 451 (.if_icmp .eq 350) 350 454 801 := ⟨by decide +kernel, rfl, rfl⟩
theorem dd_Law_law_454 : Dc mi_Law_law 454 (.iconst 0) 1 455 := ⟨by decide +kernel, rfl⟩
theorem dd_Law_law_455 : decode (mbc mi_Law_law) 455 = .ok (retI (mrt mi_Law_law), 1) := by decide +kernel
theorem dd_Law_law_456 : Dc mi_Law_law 456 (.aload_n 1) 1 457 := ⟨by decide +kernel, rfl⟩
theorem dd_Law_law_457 : Dc mi_Law_law 457 (.invokevirtual 59) 3 460 := ⟨by decide +kernel, rfl⟩
theorem dd_Law_law_460 : Dc mi_Law_law 460 (.aload_n 2) 1 461 := ⟨by decide +kernel, rfl⟩
theorem dd_Law_law_461 : Dc mi_Law_law 461 (.invokevirtual 62) 3 464 := ⟨by decide +kernel, rfl⟩
theorem dd_Law_law_464 : Db mi_Law_law 464 (.if_icmp .eq 337) 337 467 801 := ⟨by decide +kernel, rfl, rfl⟩
theorem dd_Law_law_467 : Dc mi_Law_law 467 (.iconst 0) 1 468 := ⟨by decide +kernel, rfl⟩
theorem dd_Law_law_468 : decode (mbc mi_Law_law) 468 = .ok (retI (mrt mi_Law_law), 1) := by decide +kernel
theorem dd_Law_law_469 : Dc mi_Law_law 469 (.aload_n 1) 1 470 := ⟨by decide +kernel, rfl⟩
theorem dd_Law_law_470 : Dc mi_Law_law 470 (.invokevirtual 63) 3 473 := ⟨by decide +kernel, rfl⟩
theorem dd_Law_law_473 : Dc mi_Law_law 473 (.aload_n 2) 1 474 := ⟨by decide +kernel, rfl⟩
theorem dd_Law_law_474 : Dc mi_Law_law 474 (.invokevirtual 66) 3 477 := ⟨by decide +kernel, rfl⟩
theorem dd_Law_law_477 : Db mi_Law_law 477 (.if_icmp .eq 324) 324 480 801 := ⟨by decide +kernel, rfl, rfl⟩
theorem dd_Law_law_480 : Dc mi_Law_law 480 (.iconst 0) 1 481 := ⟨by decide +kernel, rfl⟩
theorem dd_Law_law_481 : decode (mbc mi_Law_law) 481 = .ok (retI (mrt mi_Law_law), 1) := by decide +kernel
theorem dd_Law_law_482 : Dc mi_Law_law 482 (.aload_n 1) 1 483 := ⟨by decide +kernel, rfl⟩
theorem dd_Law_law_483 : Dc mi_Law_law 483 (.aload_n 0) 1 484 := ⟨by decide +kernel, rfl⟩
theorem dd_Law_law_484 : Dc mi_Law_law 484 (.iload_n 3) 1 485 := ⟨by decide +kernel, rfl⟩
theorem dd_Law_law_485 : Dc mi_Law_law 485 (.iconst 1) 1 486 := ⟨by decide +kernel, rfl⟩
theorem dd_Law_law_486 : Dc mi_Law_law 486 (.iadd) 1 487 := ⟨by decide +kernel, rfl⟩
theorem dd_Law_law_487 : Dc mi_Law_law 487 (.iaload) 1 488 := ⟨by decide +kernel, rfl⟩
theorem dd_Law_law_488 : Dc mi_Law_law 488 (.invokevirtual 67) 3 491 := ⟨by decide +kernel, rfl⟩
theorem dd_Law_law_491 : Dc mi_Law_law 491 (.aload_n 2) 1 492 := ⟨by decide +kernel, rfl⟩
theorem dd_Law_law_492 : Dc mi_Law_law 492 (.aload_n 0) 1 493 := ⟨by decide +kernel, rfl⟩
theorem dd_Law_law_493 : Dc mi_Law_law 493 (.iload_n 3) 1 494 := ⟨by decide +kernel, rfl⟩
theorem dd_Law_law_494 : Dc mi_Law_law 494 (.iconst 1) 1 495 := ⟨by decide +kernel, rfl⟩
theorem dd_Law_law_495 : Dc mi_Law_law 495 (.iadd) 1 496 := ⟨by decide +kernel, rfl⟩
theorem dd_Law_law_496 : Dc mi_Law_law 496 (.iaload) 1 497 := ⟨by decide +kernel, rfl⟩
theorem dd_Law_law_497 : Dc mi_Law_law 497 (.invokevirtual 70) 3 500 := ⟨by decide +kernel, rfl⟩
theorem dd_Law_law_500 : Db mi_Law_law 500 (.if_icmp .eq 301) 301 503 801 := ⟨by decide +kernel, rfl, rfl⟩
theorem dd_Law_law_503 : Dc mi_Law_law 503 (.iconst 0) 1 504 := ⟨by decide +kernel, rfl⟩
theorem dd_Law_law_504 : decode (mbc mi_Law_law) 504 = .ok (retI (mrt mi_Law_law), 1) := by decide +kernel
theorem dd_Law_law_505 : Dc mi_Law_law 505 (.aload_n 1) 1 506 := ⟨by decide +kernel, rfl⟩
theorem dd_Law_law_506 : Dc mi_Law_law 506 (.invokevirtual 71) 3 509 := ⟨by decide +kernel, rfl⟩
theorem dd_Law_law_509 : Dc mi_Law_law 509 (.aload_n 2) 1 510 := ⟨by decide +kernel, rfl⟩
theorem dd_Law_law_510 : Dc mi_Law_law 510 (.invokevirtual 74) 3 513 := ⟨by decide +kernel, rfl⟩
theorem dd_Law_law_513 : Db mi_Law_law 513 (.if_icmp .eq 288) 288 516 801 := ⟨by decide +kernel, rfl, rfl⟩
theorem dd_Law_law_516 : Dc mi_Law_law 516 (.iconst 0) 1 517 := ⟨by decide +kernel, rfl⟩
theorem dd_Law_law_517 : decode (mbc mi_Law_law) 517 = .ok (retI (mrt mi_Law_law), 1) := by decide +kernel
theorem dd_Law_law_518 : Dc mi_Law_law 518 (.aload_n 1) 1 519 := ⟨by decide +kernel, rfl⟩
theorem dd_Law_law_519 : Dc mi_Law_law 519 (.invokevirtual 75) 3 522 := ⟨by decide +kernel, rfl⟩
theorem dd_Law_law_522 : Dc mi_Law_law 522 (.aload_n 2) 1 523 := ⟨by decide +kernel, rfl⟩
theorem dd_Law_law_523 : Dc mi_Law_law 523 (.invokevirtual 78) 3 526 := ⟨by decide +kernel, rfl⟩
theorem dd_Law_law_526 : Db mi_Law_law 526 (.if_icmp .eq 275) 275 529 801 := ⟨by decide +kernel, rfl, rfl⟩
theorem dd_Law_law_529 : Dc mi_Law_law 529 (.iconst 0) 1 530 := ⟨by decide +kernel, rfl⟩
theorem dd_Law_law_530 : decode (mbc mi_Law_law) 530 = .ok (retI (mrt mi_Law_law), 1) := by decide +kernel
theorem dd_Law_law_531 : Dc mi_Law_law 531 (.aload_n 1) 1 532 := ⟨by decide +kernel, rfl⟩
theorem dd_Law_law_532 : Dc mi_Law_law 532 (.invokevirtual 79) 3 535 := ⟨by decide +kernel, rfl⟩
theorem dd_Law_law_535 : Dc mi_Law_law 535 (.aload_n 2) 1 536 := ⟨by decide +kernel, rfl⟩
theorem dd_Law_law_536 : Dc mi_Law_law 536 (.invokevirtual 82) 3 539 := ⟨by decide +kernel, rfl⟩
theorem dd_Law_law_539 : Db mi_Law_law 539 (.if_icmp .eq 262) 262 542 801 := ⟨by decide +kernel, rfl, rfl⟩
theorem dd_Law_law_542 : Dc mi_Law_law 542 (.iconst 0) 1 543 := ⟨by decide +kernel, rfl⟩
theorem dd_Law_law_543 : decode (mbc mi_Law_law) 543 = .ok (retI (mrt mi_Law_law), 1) := by decide +kernel
theorem dd_Law_law_544 : Dc mi_Law_law 544 (.aload_n 1) 1 545 := ⟨by decide +kernel, rfl⟩
theorem dd_Law_law_545 : Dc mi_Law_law 545 (.aload_n 0) 1 546 := ⟨by decide +kernel, rfl⟩
theorem dd_Law_law_546 : Dc mi_Law_law 546 (.iload_n 3) 1 547 := ⟨by decide +kernel, rfl⟩
theorem dd_Law_law_547 : Dc mi_Law_law 547 (.iconst 1) 1 548 := ⟨by decide +kernel, rfl⟩
theorem dd_Law_law_548 : Dc mi_Law_law 548 (.iadd) 1 549 := ⟨by decide +kernel, rfl⟩
theorem dd_Law_law_549 : Dc mi_Law_law 549 (.iaload) 1 550 := ⟨by decide +kernel, rfl⟩
theorem dd_Law_law_550 : Dc mi_Law_law 550 (.aload_n 0) 1 551 := ⟨by decide +kernel, rfl⟩
theorem dd_Law_law_551 : Dc mi_Law_law 551 (.iload_n 3) 1 552 := ⟨by decide +kernel, rfl⟩
theorem dd_Law_law_552 : Dc mi_Law_law 552 (.iconst 2) 1 553 := ⟨by decide +kernel, rfl⟩
theorem dd_Law_law_553 : Dc mi_Law_law 553 (.iadd) 1 554 := ⟨by decide +kernel, rfl⟩
theorem dd_Law_law_554 : Dc mi_Law_law 554 (.iaload) 1 555 := ⟨by decide +kernel, rfl⟩
theorem dd_Law_law_555 : Dc mi_Law_law 555 (.invokevirtual 83) 3 558 := ⟨by decide +kernel, rfl⟩
theorem dd_Law_law_558 : Dc mi_Law_law 558 (.aload_n 2) 1 559 := ⟨by decide +kernel, rfl⟩
theorem dd_Law_law_559 : Dc mi_Law_law 559 (.aload_n 0) 1 560 := ⟨by decide +kernel, rfl⟩
theorem dd_Law_law_560 : Dc mi_Law_law 560 (.iload_n 3) 1 561 := ⟨by decide +kernel, rfl⟩
theorem dd_Law_law_561 : Dc mi_Law_law 561 (.iconst 1) 1 562 := ⟨by decide +kernel, rfl⟩
theorem dd_Law_law_562 : Dc mi_Law_law 562 (.iadd) 1 563 := ⟨by decide +kernel, rfl⟩
theorem dd_Law_law_563 : Dc mi_Law_law 563 (.iaload) 1 564 := ⟨by decide +kernel, rfl⟩
theorem dd_Law_law_564 : Dc mi_Law_law 564 (.aload_n 0) 1 565 := ⟨by decide +kernel, rfl⟩
theorem dd_Law_law_565 : Dc mi_Law_law 565 (.iload_n 3) 1 566 := ⟨by decide +kernel, rfl⟩
theorem dd_Law_law_566 : Dc mi_Law_law 566 (.iconst 2) 1 567 := ⟨by decide +kernel, rfl⟩
theorem dd_Law_law_567 : Dc mi_Law_law 567 (.iadd) 1 568 := ⟨by decide +kernel, rfl⟩
theorem dd_Law_law_568 : Dc mi_Law_law 568 (.iaload) 1 569 := ⟨by decide +kernel, rfl⟩
theorem dd_Law_law_569 : Dc mi_Law_law 569 (.invokevirtual 86) 3 572 := ⟨by decide +kernel, rfl⟩
theorem dd_Law_law_572 : Db mi_Law_law 572 (.if_icmp .eq 229) 229 575 801 := ⟨by decide +kernel, rfl, rfl⟩
theorem dd_Law_law_575 : Dc mi_Law_law 575 (.iconst 0) 1 576 := ⟨by decide +kernel, rfl⟩
theorem dd_Law_law_576 : decode (mbc mi_Law_law) 576 = .ok (retI (mrt mi_Law_law), 1) := by decide +kernel
theorem dd_Law_law_577 : Dc mi_Law_law 577 (.aload_n 1) 1 578 := ⟨by decide +kernel, rfl⟩
theorem dd_Law_law_578 : Dc mi_Law_law 578 (.aload_n 0) 1 579 := ⟨by decide +kernel, rfl⟩
theorem dd_Law_law_579 : Dc mi_Law_law 579 (.iload_n 3) 1 580 := ⟨by decide +kernel, rfl⟩
theorem dd_Law_law_580 : Dc mi_Law_law 580 (.iconst 1) 1 581 := ⟨by decide +kernel, rfl⟩
theorem dd_Law_law_581 : Dc mi_Law_law 581 (.iadd) 1 582 := ⟨by decide +kernel, rfl⟩
theorem dd_Law_law_582 : Dc mi_Law_law 582 (.iaload) 1 583 := ⟨by decide +kernel, rfl⟩
theorem dd_Law_law_583 : Dc mi_Law_law 583 (.aload_n 0) 1 584 := ⟨by decide +kernel, rfl⟩
theorem dd_Law_law_584 : Dc mi_Law_law 584 (.iload_n 3) 1 585 := ⟨by decide +kernel, rfl⟩
theorem dd_Law_law_585 : Dc mi_Law_law 585 (.iconst 2) 1 586 := ⟨by decide +kernel, rfl⟩
theorem dd_Law_law_586 : Dc mi_Law_law 586 (.iadd) 1 587 := ⟨by decide +kernel, rfl⟩
theorem dd_Law_law_587 : Dc mi_Law_law 587 (.iaload) 1 588 := ⟨by decide +kernel, rfl⟩
theorem dd_Law_law_588 : Dc mi_Law_law 588 (.invokevirtual 87) 3 591 := ⟨by decide +kernel, rfl⟩
theorem dd_Law_law_591 : Dc mi_Law_law 591 (.aload_n 2) 1 592 := ⟨by decide +kernel, rfl⟩
theorem dd_Law_law_592 : Dc mi_Law_law 592 (.aload_n 0) 1 593 := ⟨by decide +kernel, rfl⟩
theorem dd_Law_law_593 : Dc mi_Law_law 593 (.iload_n 3) 1 594 := ⟨by decide +kernel, rfl⟩
theorem dd_Law_law_594 : Dc mi_Law_law 594 (.iconst 1) 1 595 := ⟨by decide +kernel, rfl⟩
theorem dd_Law_law_595 : Dc mi_Law_law 595 (.iadd) 1 596 := ⟨by decide +kernel, rfl⟩
theorem dd_Law_law_596 : Dc mi_Law_law 596 (.iaload) 1 597 := ⟨by decide +kernel, rfl⟩
theorem dd_Law_law_597 : Dc mi_Law_law 597 (.aload_n 0) 1 598 := ⟨by decide +kernel, rfl⟩
theorem dd_Law_law_598 : Dc mi_Law_law 598 (.iload_n 3) 1 599 := ⟨by decide +kernel, rfl⟩
theorem dd_Law_law_599 : Dc mi_Law_law 599 (.iconst 2) 1 600 := ⟨by decide +kernel, rfl⟩
theorem dd_Law_law_600 : Dc mi_Law_law 600 (.iadd) 1 601 := ⟨by decide +kernel, rfl⟩
theorem dd_Law_law_601 : Dc mi_Law_law 601 (.iaload) 1 602 := ⟨by decide +kernel, rfl⟩
theorem dd_Law_law_602 : Dc mi_Law_law 602 (.invokevirtual 90) 3 605 := ⟨by decide +kernel, rfl⟩
theorem dd_Law_law_605 : Db mi_Law_law 605 (.if_icmp .eq 196) 196 608 801 := ⟨by decide +kernel, rfl, rfl⟩
theorem dd_Law_law_608 : Dc mi_Law_law 608 (.iconst 0) 1 609 := ⟨by decide +kernel, rfl⟩
theorem dd_Law_law_609 : decode (mbc mi_Law_law) 609 = .ok (retI (mrt mi_Law_law), 1) := by decide +kernel
theorem dd_Law_law_610 : Dc mi_Law_law 610 (.aload_n 1) 1 611 := ⟨by decide +kernel, rfl⟩
theorem dd_Law_law_611 : Dc mi_Law_law 611 (.aload_n 0) 1 612 := ⟨by decide +kernel, rfl⟩
theorem dd_Law_law_612 : Dc mi_Law_law 612 (.iload_n 3) 1 613 := ⟨by decide +kernel, rfl⟩
theorem dd_Law_law_613 : Dc mi_Law_law 613 (.iconst 1) 1 614 := ⟨by decide +kernel, rfl⟩
theorem dd_Law_law_614 : Dc mi_Law_law 614 (.iadd) 1 615 := ⟨by decide +kernel, rfl⟩
theorem dd_Law_law_615 : Dc mi_Law_law 615 (.iaload) 1 616 := ⟨by decide +kernel, rfl⟩
theorem dd_Law_law_616 : Dc mi_Law_law 616 (.aload_n 0) 1 617 := ⟨by decide +kernel, rfl⟩
theorem dd_Law_law_617 : Dc mi_Law_law 617 (.iload_n 3) 1 618 := ⟨by decide +kernel, rfl⟩
theorem dd_Law_law_618 : Dc mi_Law_law 618 (.iconst 2) 1 619 := ⟨by decide +kernel, rfl⟩
theorem dd_Law_law_619 : Dc mi_Law_law 619 (.iadd) 1 620 := ⟨by decide +kernel, rfl⟩
theorem dd_Law_law_620 : Dc mi_Law_law 620 (.iaload) 1 621 := ⟨by decide +kernel, rfl⟩
theorem dd_Law_law_621 : Dc mi_Law_law 621 (.invokevirtual 91) 3 624 := ⟨by decide +kernel, rfl⟩
theorem dd_Law_law_624 : Dc mi_Law_law 624 (.aload_n 2) 1 625 := ⟨by decide +kernel, rfl⟩
theorem dd_Law_law_625 : Dc mi_Law_law 625 (.aload_n 0) 1 626 := ⟨by decide +kernel, rfl⟩
theorem dd_Law_law_626 : Dc mi_Law_law 626 (.iload_n 3) 1 627 := ⟨by decide +kernel, rfl⟩
theorem dd_Law_law_627 : Dc mi_Law_law 627 (.iconst 1) 1 628 := ⟨by decide +kernel, rfl⟩
theorem dd_Law_law_628 : Dc mi_Law_law 628 (.iadd) 1 629 := ⟨by decide +kernel, rfl⟩
theorem dd_Law_law_629 : Dc mi_Law_law 629 (.iaload) 1 630 := ⟨by decide +kernel, rfl⟩
theorem dd_Law_law_630 : Dc mi_Law_law 630 (.aload_n 0) 1 631 := ⟨by decide +kernel, rfl⟩
theorem dd_Law_law_631 : Dc mi_Law_law 631 (.iload_n 3) 1 632 := ⟨by decide +kernel, rfl⟩
theorem dd_Law_law_632 : Dc mi_Law_law 632 (.iconst 2) 1 633 := ⟨by decide +kernel, rfl⟩
theorem dd_Law_law_633 : Dc mi_Law_law 633 (.iadd) 1 634 := ⟨by decide +kernel, rfl⟩
theorem dd_Law_law_634 : Dc mi_Law_law 634 (.iaload) 1 635 := ⟨by decide +kernel, rfl⟩
theorem dd_Law_law_635 : Dc mi_Law_law 635 (.invokevirtual 94) 3 638 := ⟨by decide +kernel, rfl⟩
theorem dd_Law_law_638 : Db mi_Law_law 638 (.if_icmp .eq 163) 163 641 801 := ⟨by decide +kernel, rfl, rfl⟩
theorem dd_Law_law_641 : Dc mi_Law_law 641 (.iconst 0) 1 642 := ⟨by decide +kernel, rfl⟩
theorem dd_Law_law_642 : decode (mbc mi_Law_law) 642 = .ok (retI (mrt mi_Law_law), 1) := by decide +kernel
theorem dd_Law_law_643 : Dc mi_Law_law 643 (.aload_n 1) 1 644 := ⟨by decide +kernel, rfl⟩
theorem dd_Law_law_644 : Dc mi_Law_law 644 (.aload_n 0) 1 645 := ⟨by decide +kernel, rfl⟩
theorem dd_Law_law_645 : Dc mi_Law_law 645 (.iload_n 3) 1 646 := ⟨by decide +kernel, rfl⟩
theorem dd_Law_law_646 : Dc mi_Law_law 646 (.iconst 1) 1 647 := ⟨by decide +kernel, rfl⟩
theorem dd_Law_law_647 : Dc mi_Law_law 647 (.iadd) 1 648 := ⟨by decide +kernel, rfl⟩
theorem dd_Law_law_648 : Dc mi_Law_law 648 (.iaload) 1 649 := ⟨by decide +kernel, rfl⟩
theorem dd_Law_law_649 : Dc mi_Law_law 649 (.aload_n 0) 1 650 := ⟨by decide +kernel, rfl⟩
theorem dd_Law_law_650 : Dc mi_Law_law 650 (.iload_n 3) 1 651 := ⟨by decide +kernel, rfl⟩
theorem dd_Law_law_651 : Dc mi_Law_law 651 (.iconst 2) 1 652 := ⟨by decide +kernel, rfl⟩
theorem dd_Law_law_652 : Dc mi_Law_law 652 (.iadd) 1 653 := ⟨by decide +kernel, rfl⟩
theorem dd_Law_law_653 : Dc mi_Law_law 653 (.iaload) 1 654 := ⟨by decide +kernel, rfl⟩
theorem dd_Law_law_654 : Dc mi_Law_law 654 (.invokevirtual 95) 3 657 := ⟨by decide +kernel, rfl⟩
theorem dd_Law_law_657 : Dc mi_Law_law 657 (.aload_n 2) 1 658 := ⟨by decide +kernel, rfl⟩
theorem dd_Law_law_658 : Dc mi_Law_law 658 (.aload_n 0) 1 659 := ⟨by decide +kernel, rfl⟩
theorem dd_Law_law_659 : Dc mi_Law_law 659 (.iload_n 3) 1 660 := ⟨by decide +kernel, rfl⟩
theorem dd_Law_law_660 : Dc mi_Law_law 660 (.iconst 1) 1 661 := ⟨by decide +kernel, rfl⟩
theorem dd_Law_law_661 : Dc mi_Law_law 661 (.iadd) 1 662 := ⟨by decide +kernel, rfl⟩
theorem dd_Law_law_662 : Dc mi_Law_law 662 (.iaload) 1 663 := ⟨by decide +kernel, rfl⟩
theorem dd_Law_law_663 : Dc mi_Law_law 663 (.aload_n 0) 1 664 := ⟨by decide +kernel, rfl⟩
theorem dd_Law_law_664 : Dc mi_Law_law 664 (.iload_n 3) 1 665 := ⟨by decide +kernel, rfl⟩
theorem dd_Law_law_665 : Dc mi_Law_law 665 (.iconst 2) 1 666 := ⟨by decide +kernel, rfl⟩
theorem dd_Law_law_666 : Dc mi_Law_law 666 (.iadd) 1 667 := ⟨by decide +kernel, rfl⟩
theorem dd_Law_law_667 : Dc mi_Law_law 667 (.iaload) 1 668 := ⟨by decide +kernel, rfl⟩
theorem dd_Law_law_668 : Dc mi_Law_law 668 (.invokevirtual 98) 3 671 := ⟨by decide +kernel, rfl⟩
theorem dd_Law_law_671 : Db mi_Law_law 671 (.if_icmp .eq 130) 130 674 801 := ⟨by decide +kernel, rfl, rfl⟩
theorem dd_Law_law_674 : Dc mi_Law_law 674 (.iconst 0) 1 675 := ⟨by decide +kernel, rfl⟩
theorem dd_Law_law_675 : decode (mbc mi_Law_law) 675 = .ok (retI (mrt mi_Law_law), 1) := by decide +kernel
theorem dd_Law_law_676 : Dc mi_Law_law 676 (.aload_n 1) 1 677 := ⟨by decide +kernel, rfl⟩
theorem dd_Law_law_677 : Dc mi_Law_law 677 (.aload_n 0) 1 678 := ⟨by decide +kernel, rfl⟩
theorem dd_Law_law_678 : Dc mi_Law_law 678 (.iload_n 3) 1 679 := ⟨by decide +kernel, rfl⟩
theorem dd_Law_law_679 : Dc mi_Law_law 679 (.iconst 1) 1 680 := ⟨by decide +kernel, rfl⟩
theorem dd_Law_law_680 : Dc mi_Law_law 680 (.iadd) 1 681 := ⟨by decide +kernel, rfl⟩
theorem dd_Law_law_681 : Dc mi_Law_law 681 (.iaload) 1 682 := ⟨by decide +kernel, rfl⟩
theorem dd_Law_law_682 : Dc mi_Law_law 682 (.invokevirtual 99) 3 685 := ⟨by decide +kernel, rfl⟩
theorem dd_Law_law_685 : Dc mi_Law_law 685 (.aload_n 2) 1 686 := ⟨by decide +kernel, rfl⟩
theorem dd_Law_law_686 : Dc mi_Law_law 686 (.aload_n 0) 1 687 := ⟨by decide +kernel, rfl⟩
theorem dd_Law_law_687 : Dc mi_Law_law 687 (.iload_n 3) 1 688 := ⟨by decide +kernel, rfl⟩
theorem dd_Law_law_688 : Dc mi_Law_law 688 (.iconst 1) 1 689 := ⟨by decide +kernel, rfl⟩
theorem dd_Law_law_689 : Dc mi_Law_law 689 (.iadd) 1 690 := ⟨by decide +kernel, rfl⟩
theorem dd_Law_law_690 : Dc mi_Law_law 690 (.iaload) 1 691 := ⟨by decide +kernel, rfl⟩
theorem dd_Law_law_691 : Dc mi_Law_law 691 (.invokevirtual 102) 3 694 := ⟨by decide +kernel, rfl⟩
theorem dd_Law_law_694 : Db mi_Law_law 694 (.if_icmp .eq 107) 107 697 801 := ⟨by decide +kernel, rfl, rfl⟩
theorem dd_Law_law_697 : Dc mi_Law_law 697 (.iconst 0) 1 698 := ⟨by decide +kernel, rfl⟩
theorem dd_Law_law_698 : decode (mbc mi_Law_law) 698 = .ok (retI (mrt mi_Law_law), 1) := by decide +kernel
theorem dd_Law_law_699 : Dc mi_Law_law 699 (.aload_n 1) 1 700 := ⟨by decide +kernel, rfl⟩
theorem dd_Law_law_700 : Dc mi_Law_law 700 (.aload_n 0) 1 701 := ⟨by decide +kernel, rfl⟩
theorem dd_Law_law_701 : Dc mi_Law_law 701 (.iload_n 3) 1 702 := ⟨by decide +kernel, rfl⟩
theorem dd_Law_law_702 : Dc mi_Law_law 702 (.iconst 1) 1 703 := ⟨by decide +kernel, rfl⟩
theorem dd_Law_law_703 : Dc mi_Law_law 703 (.iadd) 1 704 := ⟨by decide +kernel, rfl⟩
theorem dd_Law_law_704 : Dc mi_Law_law 704 (.iaload) 1 705 := ⟨by decide +kernel, rfl⟩
theorem dd_Law_law_705 : Dc mi_Law_law 705 (.invokevirtual 103) 3 708 := ⟨by decide +kernel, rfl⟩
theorem dd_Law_law_708 : Dc mi_Law_law 708 (.aload_n 2) 1 709 := ⟨by decide +kernel, rfl⟩
theorem dd_Law_law_709 : Dc mi_Law_law 709 (.aload_n 0) 1 710 := ⟨by decide +kernel, rfl⟩
theorem dd_Law_law_710 : Dc mi_Law_law 710 (.iload_n 3) 1 711 := ⟨by decide +kernel, rfl⟩
theorem dd_Law_law_711 : Dc mi_Law_law 711 (.iconst 1) 1 712 := ⟨by decide +kernel, rfl⟩
theorem dd_Law_law_712 : Dc mi_Law_law 712 (.iadd) 1 713 := ⟨by decide +kernel, rfl⟩
theorem dd_Law_law_713 : Dc mi_Law_law 713 (.iaload) 1 714 := ⟨by decide +kernel, rfl⟩
theorem dd_Law_law_714 : Dc mi_Law_law 714 (.invokevirtual 106) 3 717 := ⟨by decide +kernel, rfl⟩
theorem dd_Law_law_717 : Db mi_Law_law 717 (.if_icmp .eq 84) 84 720 801 := ⟨by decide +kernel, rfl, rfl⟩
theorem dd_Law_law_720 : Dc mi_Law_law 720 (.iconst 0) 1 721 := ⟨by decide +kernel, rfl⟩
theorem dd_Law_law_721 : decode (mbc mi_Law_law) 721 = .ok (retI (mrt mi_Law_law), 1) := by decide +kernel
theorem dd_Law_law_722 : Dc mi_Law_law 722 (.aload_n 1) 1 723 := ⟨by decide +kernel, rfl⟩
theorem dd_Law_law_723 : Dc mi_Law_law 723 (.aload_n 0) 1 724 := ⟨by decide +kernel, rfl⟩
theorem dd_Law_law_724 : Dc mi_Law_law 724 (.iload_n 3) 1 725 := ⟨by decide +kernel, rfl⟩
theorem dd_Law_law_725 : Dc mi_Law_law 725 (.iconst 1) 1 726 := ⟨by decide +kernel, rfl⟩
theorem dd_Law_law_726 : Dc mi_Law_law 726 (.iadd) 1 727 := ⟨by decide +kernel, rfl⟩
theorem dd_Law_law_727 : Dc mi_Law_law 727 (.iaload) 1 728 := ⟨by decide +kernel, rfl⟩
theorem dd_Law_law_728 : Dc mi_Law_law 728 (.invokevirtual 107) 3 731 := ⟨by decide +kernel, rfl⟩
theorem dd_Law_law_731 : Dc mi_Law_law 731 (.aload_n 2) 1 732 := ⟨by decide +kernel, rfl⟩
theorem dd_Law_law_732 : Dc mi_Law_law 732 (.aload_n 0) 1 733 := ⟨by decide +kernel, rfl⟩
theorem dd_Law_law_733 : Dc mi_Law_law 733 (.iload_n 3) 1 734 := ⟨by decide +kernel, rfl⟩
theorem dd_Law_law_734 : Dc mi_Law_law 734 (.iconst 1) 1 735 := ⟨by decide +kernel, rfl⟩
theorem dd_Law_law_735 : Dc mi_Law_law 735 (.iadd) 1 736 := ⟨by decide +kernel, rfl⟩
theorem dd_Law_law_736 : Dc mi_Law_law 736 (.iaload) 1 737 := ⟨by decide +kernel, rfl⟩
theorem dd_Law_law_737 : Dc mi_Law_law 737 (.invokevirtual 110) 3 740 := ⟨by decide +kernel, rfl⟩
theorem dd_Law_law_740 : Db mi_Law_law 740 (.if_icmp .eq 61) 61 743 801 := ⟨by decide +kernel, rfl, rfl⟩
theorem dd_Law_law_743 : Dc mi_Law_law 743 (.iconst 0) 1 744 := ⟨by decide +kernel, rfl⟩
theorem dd_Law_law_744 : decode (mbc mi_Law_law) 744 = .ok (retI (mrt mi_Law_law), 1) := by decide +kernel
theorem dd_Law_law_745 : Dc mi_Law_law 745 (.aload_n 1) 1 746 := ⟨by decide +kernel, rfl⟩
theorem dd_Law_law_746 : Dc mi_Law_law 746 (.aload_n 0) 1 747 := ⟨by decide +kernel, rfl⟩
theorem dd_Law_law_747 : Dc mi_Law_law 747 (.iload_n 3) 1 748 := ⟨by decide +kernel, rfl⟩
theorem dd_Law_law_748 : Dc mi_Law_law 748 (.iconst 1) 1 749 := ⟨by decide +kernel, rfl⟩
theorem dd_Law_law_749 : Dc mi_Law_law 749 (.iadd) 1 750 := ⟨by decide +kernel, rfl⟩
theorem dd_Law_law_750 : Dc mi_Law_law 750 (.iaload) 1 751 := ⟨by decide +kernel, rfl⟩
theorem dd_Law_law_751 : Dc mi_Law_law 751 (.aload_n 0) 1 752 := ⟨by decide +kernel, rfl⟩
theorem dd_Law_law_752 : Dc mi_Law_law 752 (.iload_n 3) 1 753 := ⟨by decide +kernel, rfl⟩
theorem dd_Law_law_753 : Dc mi_Law_law 753 (.iconst 2) 1 754 := ⟨by decide +kernel, rfl⟩
theorem dd_Law_law_754 : Dc mi_Law_law 754 (.iadd) 1 755 := ⟨by decide +kernel, rfl⟩
theorem dd_Law_law_755 : Dc mi_Law_law 755 (.iaload) 1 756 := ⟨by decide +kernel, rfl⟩
theorem dd_Law_law_756 : Dc mi_Law_law 756 (.invokevirtual 111) 3 759 := ⟨by decide +kernel, rfl⟩
theorem dd_Law_law_759 : Dc mi_Law_law 759 (.aload_n 2) 1 760 := ⟨by decide +kernel, rfl⟩
theorem dd_Law_law_760 : Dc mi_Law_law 760 (.aload_n 0) 1 761 := ⟨by decide +kernel, rfl⟩
theorem dd_Law_law_761 : Dc mi_Law_law 761 (.iload_n 3) 1 762 := ⟨by decide +kernel, rfl⟩
theorem dd_Law_law_762 : Dc mi_Law_law 762 (.iconst 1) 1 763 := ⟨by decide +kernel, rfl⟩
theorem dd_Law_law_763 : Dc mi_Law_law 763 (.iadd) 1 764 := ⟨by decide +kernel, rfl⟩
theorem dd_Law_law_764 : Dc mi_Law_law 764 (.iaload) 1 765 := ⟨by decide +kernel, rfl⟩
theorem dd_Law_law_765 : Dc mi_Law_law 765 (.aload_n 0) 1 766 := ⟨by decide +kernel, rfl⟩
theorem dd_Law_law_766 : Dc mi_Law_law 766 (.iload_n 3) 1 767 := ⟨by decide +kernel, rfl⟩
theorem dd_Law_law_767 : Dc mi_Law_law 767 (.iconst 2) 1 768 := ⟨by decide +kernel, rfl⟩
theorem dd_Law_law_768 : Dc mi_Law_law 768 (.iadd) 1 769 := ⟨by decide +kernel, rfl⟩
theorem dd_Law_law_769 : Dc mi_Law_law 769 (.iaload) 1 770 := ⟨by decide +kernel, rfl⟩
theorem dd_Law_law_770 : Dc mi_Law_law 770 (.invokevirtual 114) 3 773 := ⟨by decide +kernel, rfl⟩
theorem dd_Law_law_773 : Db mi_Law_law 773 (.if_icmp .eq 28) 28 776 801 := ⟨by decide +kernel, rfl, rfl⟩
theorem dd_Law_law_776 : Dc mi_Law_law 776 (.iconst 0) 1 777 := ⟨by decide +kernel, rfl⟩
theorem dd_Law_law_777 : decode (mbc mi_Law_law) 777 = .ok (retI (mrt mi_Law_law), 1) := by decide +kernel
theorem dd_Law_law_778 : Dc mi_Law_law 778 (.aload_n 1) 1 779 := ⟨by decide +kernel, rfl⟩
theorem dd_Law_law_779 : Dc mi_Law_law 779 (.aload_n 0) 1 780 := ⟨by decide +kernel, rfl⟩
theorem dd_Law_law_780 : Dc mi_Law_law 780 (.iload_n 3) 1 781 := ⟨by decide +kernel, rfl⟩
theorem dd_Law_law_781 : Dc mi_Law_law 781 (.iconst 1) 1 782 := ⟨by decide +kernel, rfl⟩
theorem dd_Law_law_782 : Dc mi_Law_law 782 (.iadd) 1 783 := ⟨by decide +kernel, rfl⟩
theorem dd_Law_law_783 : Dc mi_Law_law 783 (.iaload) 1 784 := ⟨by decide +kernel, rfl⟩
theorem dd_Law_law_784 : Dc mi_Law_law 784 (.invokevirtual 115) 3 787 := ⟨by decide +kernel, rfl⟩
theorem dd_Law_law_787 : Dc mi_Law_law 787 (.aload_n 2) 1 788 := ⟨by decide +kernel, rfl⟩
theorem dd_Law_law_788 : Dc mi_Law_law 788 (.aload_n 0) 1 789 := ⟨by decide +kernel, rfl⟩
theorem dd_Law_law_789 : Dc mi_Law_law 789 (.iload_n 3) 1 790 := ⟨by decide +kernel, rfl⟩
theorem dd_Law_law_790 : Dc mi_Law_law 790 (.iconst 1) 1 791 := ⟨by decide +kernel, rfl⟩
theorem dd_Law_law_791 : Dc mi_Law_law 791 (.iadd) 1 792 := ⟨by decide +kernel, rfl⟩
theorem dd_Law_law_792 : Dc mi_Law_law 792 (.iaload) 1 793 := ⟨by decide +kernel, rfl⟩
theorem dd_Law_law_793 : Dc mi_Law_law 793 (.invokevirtual 118) 3 796 := ⟨by decide +kernel, rfl⟩
theorem dd_Law_law_796 : Db mi_Law_law 796 (.if_icmp .eq 5) 5 799 801 := ⟨by decide +kernel, rfl, rfl⟩
theorem dd_Law_law_799 : Dc mi_Law_law 799 (.iconst 0) 1 800 := ⟨by decide +kernel, rfl⟩
theorem dd_Law_law_800 : decode (mbc mi_Law_law) 800 = .ok (retI (mrt mi_Law_law), 1) := by decide +kernel
theorem dd_Law_law_801 : Dc mi_Law_law 801 (.iinc 3 5) 3 804 := ⟨by decide +kernel, rfl⟩
theorem dd_Law_law_804 : Db mi_Law_law 804 (.goto (-786)) (-786) 807 18 := ⟨by decide +kernel, rfl, rfl⟩
theorem dd_Law_law_807 : Dc mi_Law_law 807 (.iconst 1) 1 808 := ⟨by decide +kernel, rfl⟩
theorem dd_Law_law_808 : decode (mbc mi_Law_law) 808 = .ok (retI (mrt mi_Law_law), 1) := by decide +kernel
end
section
/-! fields, by program; objects and references that are known by number -/
theorem i8_ok {n : Int} (h : -128 ≤ n ∧ n ≤ 127) : (Int8.ofInt n).toInt32 = Int32.ofInt n := by
  apply Int32.toInt_inj.mp
  rw [Int8.toInt_toInt32, Int8.toInt_ofInt, oi_t ⟨by omega, by omega⟩]
  exact Int.bmod_eq_of_le (by simp [Int8.size]; omega) (by simp [Int8.size]; omega)
theorem i16_ok {n : Int} (h : -32768 ≤ n ∧ n ≤ 32767) : (Int16.ofInt n).toInt32 = Int32.ofInt n := by
  apply Int32.toInt_inj.mp
  rw [Int16.toInt_toInt32, Int16.toInt_ofInt, oi_t ⟨by omega, by omega⟩]
  exact Int.bmod_eq_of_le (by simp [Int16.size]; omega) (by simp [Int16.size]; omega)
section RB
variable {y : MI} {t0 pc pc' : Nat} {L : List (Option Vv)} {S : List Vv} {M Mf : Mm} {r : Option Vv}
theorem r_bip {n : Int} (hd : Dc y pc (.bipush n) 2 pc') (h : -128 ≤ n ∧ n ≤ 127) (kk : SPW y t0 pc' L (vI n :: S) M r Mf) : SPW y t0 pc L S M r Mf := r_bipush hd ⟨by omega, by omega⟩ (i8_ok h) kk
theorem r_sip {n : Int} (hd : Dc y pc (.sipush n) 3 pc') (h : -32768 ≤ n ∧ n ≤ 32767) (kk : SPW y t0 pc' L (vI n :: S) M r Mf) : SPW y t0 pc L S M r Mf := r_sipush hd ⟨by omega, by omega⟩ (i16_ok h) kk
end RB
theorem fc_Blk_0 : 0 < 8 ∧ 0 < nfd 0 := by decide +kernel
theorem ff_Blk_0 : (Tcl 0 0).2.2.2 = true := by decide +kernel
theorem fi_Blk_0 : 0 < 8 ∧ 0 < nfd 0 ∧ tyk 0 0 ≠ 2 := by decide +kernel
theorem pi_Blk_0 (x : Int) : putOK 0 0 x := Or.inl (by decide +kernel)
theorem fc_Blk_1 : 0 < 8 ∧ 1 < nfd 0 := by decide +kernel
theorem ff_Blk_1 : (Tcl 0 1).2.2.2 = false := by decide +kernel
theorem fi_Blk_1 : 0 < 8 ∧ 1 < nfd 0 ∧ tyk 0 1 ≠ 2 := by decide +kernel
theorem pi_Blk_1 (x : Int) : putOK 0 1 x := Or.inl (by decide +kernel)
theorem fc_Blk_2 : 0 < 8 ∧ 2 < nfd 0 := by decide +kernel
theorem ff_Blk_2 : (Tcl 0 2).2.2.2 = false := by decide +kernel
theorem fi_Blk_2 : 0 < 8 ∧ 2 < nfd 0 ∧ tyk 0 2 ≠ 2 := by decide +kernel
theorem pi_Blk_2 (x : Int) : putOK 0 2 x := Or.inl (by decide +kernel)
theorem fc_Blk_3 : 0 < 8 ∧ 3 < nfd 0 := by decide +kernel
theorem ff_Blk_3 : (Tcl 0 3).2.2.2 = false := by decide +kernel
theorem fi_Blk_3 : 0 < 8 ∧ 3 < nfd 0 ∧ tyk 0 3 ≠ 2 := by decide +kernel
theorem pi_Blk_3 (x : Int) : putOK 0 3 x := Or.inl (by decide +kernel)
theorem fc_Blk_4 : 0 < 8 ∧ 4 < nfd 0 := by decide +kernel
theorem ff_Blk_4 : (Tcl 0 4).2.2.2 = false := by decide +kernel
theorem fi_Blk_4 : 0 < 8 ∧ 4 < nfd 0 ∧ tyk 0 4 ≠ 2 := by decide +kernel
theorem pi_Blk_4 (x : Int) : putOK 0 4 x := Or.inl (by decide +kernel)
theorem fc_Blk_5 : 0 < 8 ∧ 5 < nfd 0 := by decide +kernel
theorem ff_Blk_5 : (Tcl 0 5).2.2.2 = false := by decide +kernel
theorem fi_Blk_5 : 0 < 8 ∧ 5 < nfd 0 ∧ tyk 0 5 ≠ 2 := by decide +kernel
theorem pi_Blk_5 (x : Int) : putOK 0 5 x := Or.inl (by decide +kernel)
theorem fc_Cmd_0 : 1 < 8 ∧ 0 < nfd 1 := by decide +kernel
theorem ff_Cmd_0 : (Tcl 1 0).2.2.2 = false := by decide +kernel
theorem fi_Cmd_0 : 1 < 8 ∧ 0 < nfd 1 ∧ tyk 1 0 ≠ 2 := by decide +kernel
theorem pi_Cmd_0 (x : Int) : putOK 1 0 x := Or.inl (by decide +kernel)
theorem fc_Cmd_1 : 1 < 8 ∧ 1 < nfd 1 := by decide +kernel
theorem ff_Cmd_1 : (Tcl 1 1).2.2.2 = false := by decide +kernel
theorem fi_Cmd_1 : 1 < 8 ∧ 1 < nfd 1 ∧ tyk 1 1 ≠ 2 := by decide +kernel
theorem pi_Cmd_1 (x : Int) : putOK 1 1 x := Or.inl (by decide +kernel)
theorem fc_Cmd_2 : 1 < 8 ∧ 2 < nfd 1 := by decide +kernel
theorem ff_Cmd_2 : (Tcl 1 2).2.2.2 = false := by decide +kernel
theorem fi_Cmd_2 : 1 < 8 ∧ 2 < nfd 1 ∧ tyk 1 2 ≠ 2 := by decide +kernel
theorem pi_Cmd_2 (x : Int) : putOK 1 2 x := Or.inl (by decide +kernel)
theorem fc_His_0 : 2 < 8 ∧ 0 < nfd 2 := by decide +kernel
theorem ff_His_0 : (Tcl 2 0).2.2.2 = true := by decide +kernel
theorem fr_His_0 : 2 < 8 ∧ 0 < nfd 2 ∧ tyk 2 0 = 2 := by decide +kernel
theorem pr_His_0 : putRK 2 0 := Or.inr ⟨(.object "GuardedPool$State"), by decide +kernel⟩
theorem fc_His_1 : 2 < 8 ∧ 1 < nfd 2 := by decide +kernel
theorem ff_His_1 : (Tcl 2 1).2.2.2 = false := by decide +kernel
theorem fi_His_1 : 2 < 8 ∧ 1 < nfd 2 ∧ tyk 2 1 ≠ 2 := by decide +kernel
theorem pi_His_1 (x : Int) : putOK 2 1 x := Or.inl (by decide +kernel)
theorem fc_His_2 : 2 < 8 ∧ 2 < nfd 2 := by decide +kernel
theorem ff_His_2 : (Tcl 2 2).2.2.2 = false := by decide +kernel
theorem fi_His_2 : 2 < 8 ∧ 2 < nfd 2 ∧ tyk 2 2 ≠ 2 := by decide +kernel
theorem pi_His_2 (x : Int) : putOK 2 2 x := Or.inl (by decide +kernel)
theorem fc_Sta_0 : 3 < 8 ∧ 0 < nfd 3 := by decide +kernel
theorem ff_Sta_0 : (Tcl 3 0).2.2.2 = true := by decide +kernel
theorem fr_Sta_0 : 3 < 8 ∧ 0 < nfd 3 ∧ tyk 3 0 = 2 := by decide +kernel
theorem pr_Sta_0 : putRK 3 0 := Or.inr ⟨(.object "GuardedPool$Block"), by decide +kernel⟩
theorem fc_Sta_1 : 3 < 8 ∧ 1 < nfd 3 := by decide +kernel
theorem ff_Sta_1 : (Tcl 3 1).2.2.2 = true := by decide +kernel
theorem fr_Sta_1 : 3 < 8 ∧ 1 < nfd 3 ∧ tyk 3 1 = 2 := by decide +kernel
theorem pr_Sta_1 : putRK 3 1 := Or.inr ⟨.int, by decide +kernel⟩
theorem fc_Sta_2 : 3 < 8 ∧ 2 < nfd 3 := by decide +kernel
theorem ff_Sta_2 : (Tcl 3 2).2.2.2 = true := by decide +kernel
theorem fr_Sta_2 : 3 < 8 ∧ 2 < nfd 3 ∧ tyk 3 2 = 2 := by decide +kernel
theorem pr_Sta_2 : putRK 3 2 := Or.inr ⟨(.object "GuardedPool$Task"), by decide +kernel⟩
theorem fc_Sta_3 : 3 < 8 ∧ 3 < nfd 3 := by decide +kernel
theorem ff_Sta_3 : (Tcl 3 3).2.2.2 = false := by decide +kernel
theorem fi_Sta_3 : 3 < 8 ∧ 3 < nfd 3 ∧ tyk 3 3 ≠ 2 := by decide +kernel
theorem pi_Sta_3 (x : Int) : putOK 3 3 x := Or.inl (by decide +kernel)
theorem fc_Sta_4 : 3 < 8 ∧ 4 < nfd 3 := by decide +kernel
theorem ff_Sta_4 : (Tcl 3 4).2.2.2 = false := by decide +kernel
theorem fi_Sta_4 : 3 < 8 ∧ 4 < nfd 3 ∧ tyk 3 4 ≠ 2 := by decide +kernel
theorem pi_Sta_4 (x : Int) : putOK 3 4 x := Or.inl (by decide +kernel)
theorem fc_Sta_5 : 3 < 8 ∧ 5 < nfd 3 := by decide +kernel
theorem ff_Sta_5 : (Tcl 3 5).2.2.2 = false := by decide +kernel
theorem fi_Sta_5 : 3 < 8 ∧ 5 < nfd 3 ∧ tyk 3 5 ≠ 2 := by decide +kernel
theorem pi_Sta_5 (x : Int) : putOK 3 5 x := Or.inl (by decide +kernel)
theorem fc_Sta_6 : 3 < 8 ∧ 6 < nfd 3 := by decide +kernel
theorem ff_Sta_6 : (Tcl 3 6).2.2.2 = false := by decide +kernel
theorem fi_Sta_6 : 3 < 8 ∧ 6 < nfd 3 ∧ tyk 3 6 ≠ 2 := by decide +kernel
theorem pi_Sta_6 (x : Int) : putOK 3 6 x := Or.inl (by decide +kernel)
theorem fc_Sta_7 : 3 < 8 ∧ 7 < nfd 3 := by decide +kernel
theorem ff_Sta_7 : (Tcl 3 7).2.2.2 = false := by decide +kernel
theorem fi_Sta_7 : 3 < 8 ∧ 7 < nfd 3 ∧ tyk 3 7 ≠ 2 := by decide +kernel
theorem pi_Sta_7 (x : Int) : putOK 3 7 x := Or.inl (by decide +kernel)
theorem fc_Sta_8 : 3 < 8 ∧ 8 < nfd 3 := by decide +kernel
theorem ff_Sta_8 : (Tcl 3 8).2.2.2 = false := by decide +kernel
theorem fi_Sta_8 : 3 < 8 ∧ 8 < nfd 3 ∧ tyk 3 8 ≠ 2 := by decide +kernel
theorem pi_Sta_8 (x : Int) : putOK 3 8 x := Or.inl (by decide +kernel)
theorem fc_Tsk_0 : 4 < 8 ∧ 0 < nfd 4 := by decide +kernel
theorem ff_Tsk_0 : (Tcl 4 0).2.2.2 = false := by decide +kernel
theorem fi_Tsk_0 : 4 < 8 ∧ 0 < nfd 4 ∧ tyk 4 0 ≠ 2 := by decide +kernel
theorem pb_Tsk_0 {x : Int} (h : x = 0 ∨ x = 1) : putOK 4 0 x := Or.inr ⟨by decide +kernel, by decide +kernel, h⟩
theorem fc_Tsk_1 : 4 < 8 ∧ 1 < nfd 4 := by decide +kernel
theorem ff_Tsk_1 : (Tcl 4 1).2.2.2 = false := by decide +kernel
theorem fi_Tsk_1 : 4 < 8 ∧ 1 < nfd 4 ∧ tyk 4 1 ≠ 2 := by decide +kernel
theorem pi_Tsk_1 (x : Int) : putOK 4 1 x := Or.inl (by decide +kernel)
theorem fc_Tsk_2 : 4 < 8 ∧ 2 < nfd 4 := by decide +kernel
theorem ff_Tsk_2 : (Tcl 4 2).2.2.2 = false := by decide +kernel
theorem fi_Tsk_2 : 4 < 8 ∧ 2 < nfd 4 ∧ tyk 4 2 ≠ 2 := by decide +kernel
theorem pi_Tsk_2 (x : Int) : putOK 4 2 x := Or.inl (by decide +kernel)
theorem fc_Txt_0 : 5 < 8 ∧ 0 < nfd 5 := by decide +kernel
theorem ff_Txt_0 : (Tcl 5 0).2.2.2 = true := by decide +kernel
theorem fr_Txt_0 : 5 < 8 ∧ 0 < nfd 5 ∧ tyk 5 0 = 2 := by decide +kernel
theorem pr_Txt_0 : putRK 5 0 := Or.inr ⟨.char, by decide +kernel⟩
theorem fc_Txt_1 : 5 < 8 ∧ 1 < nfd 5 := by decide +kernel
theorem ff_Txt_1 : (Tcl 5 1).2.2.2 = false := by decide +kernel
theorem fi_Txt_1 : 5 < 8 ∧ 1 < nfd 5 ∧ tyk 5 1 ≠ 2 := by decide +kernel
theorem pi_Txt_1 (x : Int) : putOK 5 1 x := Or.inl (by decide +kernel)
theorem fc_Txt_2 : 5 < 8 ∧ 2 < nfd 5 := by decide +kernel
theorem ff_Txt_2 : (Tcl 5 2).2.2.2 = true := by decide +kernel
theorem fr_Txt_2 : 5 < 8 ∧ 2 < nfd 5 ∧ tyk 5 2 = 2 := by decide +kernel
theorem pr_Txt_2 : putRK 5 2 := Or.inr ⟨(.object "GuardedPool$Command"), by decide +kernel⟩
theorem fc_Txt_3 : 5 < 8 ∧ 3 < nfd 5 := by decide +kernel
theorem ff_Txt_3 : (Tcl 5 3).2.2.2 = false := by decide +kernel
theorem fi_Txt_3 : 5 < 8 ∧ 3 < nfd 5 ∧ tyk 5 3 ≠ 2 := by decide +kernel
theorem pi_Txt_3 (x : Int) : putOK 5 3 x := Or.inl (by decide +kernel)
theorem fc_Txt_4 : 5 < 8 ∧ 4 < nfd 5 := by decide +kernel
theorem ff_Txt_4 : (Tcl 5 4).2.2.2 = false := by decide +kernel
theorem fi_Txt_4 : 5 < 8 ∧ 4 < nfd 5 ∧ tyk 5 4 ≠ 2 := by decide +kernel
theorem pi_Txt_4 (x : Int) : putOK 5 4 x := Or.inl (by decide +kernel)
theorem fc_Txt_5 : 5 < 8 ∧ 5 < nfd 5 := by decide +kernel
theorem ff_Txt_5 : (Tcl 5 5).2.2.2 = false := by decide +kernel
theorem fi_Txt_5 : 5 < 8 ∧ 5 < nfd 5 ∧ tyk 5 5 ≠ 2 := by decide +kernel
theorem pb_Txt_5 {x : Int} (h : x = 0 ∨ x = 1) : putOK 5 5 x := Or.inr ⟨by decide +kernel, by decide +kernel, h⟩
theorem fc_Poo_0 : 6 < 8 ∧ 0 < nfd 6 := by decide +kernel
theorem ff_Poo_0 : (Tcl 6 0).2.2.2 = true := by decide +kernel
theorem fr_Poo_0 : 6 < 8 ∧ 0 < nfd 6 ∧ tyk 6 0 = 2 := by decide +kernel
theorem pr_Poo_0 : putRK 6 0 := Or.inl ⟨"GuardedPool$State", by decide +kernel⟩
theorem fc_Poo_1 : 6 < 8 ∧ 1 < nfd 6 := by decide +kernel
theorem ff_Poo_1 : (Tcl 6 1).2.2.2 = true := by decide +kernel
theorem fr_Poo_1 : 6 < 8 ∧ 1 < nfd 6 ∧ tyk 6 1 = 2 := by decide +kernel
theorem pr_Poo_1 : putRK 6 1 := Or.inl ⟨"GuardedPool$State", by decide +kernel⟩
theorem fc_Poo_2 : 6 < 8 ∧ 2 < nfd 6 := by decide +kernel
theorem ff_Poo_2 : (Tcl 6 2).2.2.2 = true := by decide +kernel
theorem fr_Poo_2 : 6 < 8 ∧ 2 < nfd 6 ∧ tyk 6 2 = 2 := by decide +kernel
theorem pr_Poo_2 : putRK 6 2 := Or.inl ⟨"GuardedPool$State", by decide +kernel⟩
theorem fc_Poo_3 : 6 < 8 ∧ 3 < nfd 6 := by decide +kernel
theorem ff_Poo_3 : (Tcl 6 3).2.2.2 = false := by decide +kernel
theorem fi_Poo_3 : 6 < 8 ∧ 3 < nfd 6 ∧ tyk 6 3 ≠ 2 := by decide +kernel
theorem pb_Poo_3 {x : Int} (h : x = 0 ∨ x = 1) : putOK 6 3 x := Or.inr ⟨by decide +kernel, by decide +kernel, h⟩
theorem fc_Poo_4 : 6 < 8 ∧ 4 < nfd 6 := by decide +kernel
theorem ff_Poo_4 : (Tcl 6 4).2.2.2 = true := by decide +kernel
theorem fr_Poo_4 : 6 < 8 ∧ 4 < nfd 6 ∧ tyk 6 4 = 2 := by decide +kernel
theorem pr_Poo_4 : putRK 6 4 := Or.inl ⟨"GuardedPool$History", by decide +kernel⟩
theorem fc_Poo_5 : 6 < 8 ∧ 5 < nfd 6 := by decide +kernel
theorem ff_Poo_5 : (Tcl 6 5).2.2.2 = true := by decide +kernel
theorem fr_Poo_5 : 6 < 8 ∧ 5 < nfd 6 ∧ tyk 6 5 = 2 := by decide +kernel
theorem pr_Poo_5 : putRK 6 5 := Or.inl ⟨"GuardedPool$Text", by decide +kernel⟩
theorem fc_Poo_6 : 6 < 8 ∧ 6 < nfd 6 := by decide +kernel
theorem ff_Poo_6 : (Tcl 6 6).2.2.2 = true := by decide +kernel
theorem fr_Poo_6 : 6 < 8 ∧ 6 < nfd 6 ∧ tyk 6 6 = 2 := by decide +kernel
theorem pr_Poo_6 : putRK 6 6 := Or.inr ⟨.int, by decide +kernel⟩
theorem fc_Poo_7 : 6 < 8 ∧ 7 < nfd 6 := by decide +kernel
theorem ff_Poo_7 : (Tcl 6 7).2.2.2 = false := by decide +kernel
theorem fi_Poo_7 : 6 < 8 ∧ 7 < nfd 6 ∧ tyk 6 7 ≠ 2 := by decide +kernel
theorem pb_Poo_7 {x : Int} (h : x = 0 ∨ x = 1) : putOK 6 7 x := Or.inr ⟨by decide +kernel, by decide +kernel, h⟩
theorem fc_Poo_8 : 6 < 8 ∧ 8 < nfd 6 := by decide +kernel
theorem ff_Poo_8 : (Tcl 6 8).2.2.2 = false := by decide +kernel
theorem fi_Poo_8 : 6 < 8 ∧ 8 < nfd 6 ∧ tyk 6 8 ≠ 2 := by decide +kernel
theorem pi_Poo_8 (x : Int) : putOK 6 8 x := Or.inl (by decide +kernel)
theorem fc_Poo_9 : 6 < 8 ∧ 9 < nfd 6 := by decide +kernel
theorem ff_Poo_9 : (Tcl 6 9).2.2.2 = false := by decide +kernel
theorem fi_Poo_9 : 6 < 8 ∧ 9 < nfd 6 ∧ tyk 6 9 ≠ 2 := by decide +kernel
theorem pi_Poo_9 (x : Int) : putOK 6 9 x := Or.inl (by decide +kernel)
theorem fc_Mod_0 : 7 < 8 ∧ 0 < nfd 7 := by decide +kernel
theorem ff_Mod_0 : (Tcl 7 0).2.2.2 = true := by decide +kernel
theorem fr_Mod_0 : 7 < 8 ∧ 0 < nfd 7 ∧ tyk 7 0 = 2 := by decide +kernel
theorem pr_Mod_0 : putRK 7 0 := Or.inr ⟨.int, by decide +kernel⟩
theorem fc_Mod_1 : 7 < 8 ∧ 1 < nfd 7 := by decide +kernel
theorem ff_Mod_1 : (Tcl 7 1).2.2.2 = true := by decide +kernel
theorem fr_Mod_1 : 7 < 8 ∧ 1 < nfd 7 ∧ tyk 7 1 = 2 := by decide +kernel
theorem pr_Mod_1 : putRK 7 1 := Or.inr ⟨.int, by decide +kernel⟩
theorem fc_Mod_2 : 7 < 8 ∧ 2 < nfd 7 := by decide +kernel
theorem ff_Mod_2 : (Tcl 7 2).2.2.2 = true := by decide +kernel
theorem fr_Mod_2 : 7 < 8 ∧ 2 < nfd 7 ∧ tyk 7 2 = 2 := by decide +kernel
theorem pr_Mod_2 : putRK 7 2 := Or.inr ⟨.int, by decide +kernel⟩
theorem fc_Mod_3 : 7 < 8 ∧ 3 < nfd 7 := by decide +kernel
theorem ff_Mod_3 : (Tcl 7 3).2.2.2 = false := by decide +kernel
theorem fi_Mod_3 : 7 < 8 ∧ 3 < nfd 7 ∧ tyk 7 3 ≠ 2 := by decide +kernel
theorem pi_Mod_3 (x : Int) : putOK 7 3 x := Or.inl (by decide +kernel)
theorem fc_Mod_4 : 7 < 8 ∧ 4 < nfd 7 := by decide +kernel
theorem ff_Mod_4 : (Tcl 7 4).2.2.2 = true := by decide +kernel
theorem fr_Mod_4 : 7 < 8 ∧ 4 < nfd 7 ∧ tyk 7 4 = 2 := by decide +kernel
theorem pr_Mod_4 : putRK 7 4 := Or.inr ⟨.int, by decide +kernel⟩
theorem fc_Mod_5 : 7 < 8 ∧ 5 < nfd 7 := by decide +kernel
theorem ff_Mod_5 : (Tcl 7 5).2.2.2 = false := by decide +kernel
theorem fi_Mod_5 : 7 < 8 ∧ 5 < nfd 7 ∧ tyk 7 5 ≠ 2 := by decide +kernel
theorem pb_Mod_5 {x : Int} (h : x = 0 ∨ x = 1) : putOK 7 5 x := Or.inr ⟨by decide +kernel, by decide +kernel, h⟩
theorem fc_Mod_6 : 7 < 8 ∧ 6 < nfd 7 := by decide +kernel
theorem ff_Mod_6 : (Tcl 7 6).2.2.2 = true := by decide +kernel
theorem fr_Mod_6 : 7 < 8 ∧ 6 < nfd 7 ∧ tyk 7 6 = 2 := by decide +kernel
theorem pr_Mod_6 : putRK 7 6 := Or.inr ⟨.int, by decide +kernel⟩
theorem fc_Mod_7 : 7 < 8 ∧ 7 < nfd 7 := by decide +kernel
theorem ff_Mod_7 : (Tcl 7 7).2.2.2 = true := by decide +kernel
theorem fr_Mod_7 : 7 < 8 ∧ 7 < nfd 7 ∧ tyk 7 7 = 2 := by decide +kernel
theorem pr_Mod_7 : putRK 7 7 := Or.inr ⟨.int, by decide +kernel⟩
theorem fc_Mod_8 : 7 < 8 ∧ 8 < nfd 7 := by decide +kernel
theorem ff_Mod_8 : (Tcl 7 8).2.2.2 = false := by decide +kernel
theorem fi_Mod_8 : 7 < 8 ∧ 8 < nfd 7 ∧ tyk 7 8 ≠ 2 := by decide +kernel
theorem pi_Mod_8 (x : Int) : putOK 7 8 x := Or.inl (by decide +kernel)
theorem fc_Mod_9 : 7 < 8 ∧ 9 < nfd 7 := by decide +kernel
theorem ff_Mod_9 : (Tcl 7 9).2.2.2 = false := by decide +kernel
theorem fi_Mod_9 : 7 < 8 ∧ 9 < nfd 7 ∧ tyk 7 9 ≠ 2 := by decide +kernel
theorem pi_Mod_9 (x : Int) : putOK 7 9 x := Or.inl (by decide +kernel)
theorem fc_Mod_10 : 7 < 8 ∧ 10 < nfd 7 := by decide +kernel
theorem ff_Mod_10 : (Tcl 7 10).2.2.2 = false := by decide +kernel
theorem fi_Mod_10 : 7 < 8 ∧ 10 < nfd 7 ∧ tyk 7 10 ≠ 2 := by decide +kernel
theorem pi_Mod_10 (x : Int) : putOK 7 10 x := Or.inl (by decide +kernel)
theorem fc_Mod_11 : 7 < 8 ∧ 11 < nfd 7 := by decide +kernel
theorem ff_Mod_11 : (Tcl 7 11).2.2.2 = false := by decide +kernel
theorem fi_Mod_11 : 7 < 8 ∧ 11 < nfd 7 ∧ tyk 7 11 ≠ 2 := by decide +kernel
theorem pi_Mod_11 (x : Int) : putOK 7 11 x := Or.inl (by decide +kernel)
theorem fc_Mod_12 : 7 < 8 ∧ 12 < nfd 7 := by decide +kernel
theorem ff_Mod_12 : (Tcl 7 12).2.2.2 = false := by decide +kernel
theorem fi_Mod_12 : 7 < 8 ∧ 12 < nfd 7 ∧ tyk 7 12 ≠ 2 := by decide +kernel
theorem pb_Mod_12 {x : Int} (h : x = 0 ∨ x = 1) : putOK 7 12 x := Or.inr ⟨by decide +kernel, by decide +kernel, h⟩
theorem fc_Mod_13 : 7 < 8 ∧ 13 < nfd 7 := by decide +kernel
theorem ff_Mod_13 : (Tcl 7 13).2.2.2 = false := by decide +kernel
theorem fi_Mod_13 : 7 < 8 ∧ 13 < nfd 7 ∧ tyk 7 13 ≠ 2 := by decide +kernel
theorem pi_Mod_13 (x : Int) : putOK 7 13 x := Or.inl (by decide +kernel)
theorem fc_Mod_14 : 7 < 8 ∧ 14 < nfd 7 := by decide +kernel
theorem ff_Mod_14 : (Tcl 7 14).2.2.2 = false := by decide +kernel
theorem fi_Mod_14 : 7 < 8 ∧ 14 < nfd 7 ∧ tyk 7 14 ≠ 2 := by decide +kernel
theorem pi_Mod_14 (x : Int) : putOK 7 14 x := Or.inl (by decide +kernel)
theorem fc_Mod_15 : 7 < 8 ∧ 15 < nfd 7 := by decide +kernel
theorem ff_Mod_15 : (Tcl 7 15).2.2.2 = false := by decide +kernel
theorem fi_Mod_15 : 7 < 8 ∧ 15 < nfd 7 ∧ tyk 7 15 ≠ 2 := by decide +kernel
theorem pi_Mod_15 (x : Int) : putOK 7 15 x := Or.inl (by decide +kernel)
theorem fc_Mod_16 : 7 < 8 ∧ 16 < nfd 7 := by decide +kernel
theorem ff_Mod_16 : (Tcl 7 16).2.2.2 = false := by decide +kernel
theorem fi_Mod_16 : 7 < 8 ∧ 16 < nfd 7 ∧ tyk 7 16 ≠ 2 := by decide +kernel
theorem pi_Mod_16 (x : Int) : putOK 7 16 x := Or.inl (by decide +kernel)
theorem vk_0 : vk 226 0 6 := ⟨by decide, by decide, by decide⟩
theorem R0_0_0 : R0 0 0 = some 1 := by decide
theorem R0_0_1 : R0 0 1 = some 27 := by decide
theorem R0_0_2 : R0 0 2 = some 53 := by decide
theorem R0_0_4 : R0 0 4 = some 79 := by decide
theorem R0_0_5 : R0 0 5 = some 185 := by decide
theorem R0_0_6 : R0 0 6 = some 218 := by decide
theorem vk_1 : vk 226 1 3 := ⟨by decide, by decide, by decide⟩
theorem R0_1_0 : R0 1 0 = some 2 := by decide
theorem R0_1_1 : R0 1 1 = some 19 := by decide
theorem R0_1_2 : R0 1 2 = some 20 := by decide
theorem vk_2 : vk 226 2 17 := ⟨by decide, by decide, by decide⟩
theorem vk_19 : vk 226 19 10 := ⟨by decide, by decide, by decide⟩
theorem vk_20 : vk 226 20 18 := ⟨by decide, by decide, by decide⟩
theorem vk_27 : vk 226 27 3 := ⟨by decide, by decide, by decide⟩
theorem R0_27_0 : R0 27 0 = some 28 := by decide
theorem R0_27_1 : R0 27 1 = some 45 := by decide
theorem R0_27_2 : R0 27 2 = some 46 := by decide
theorem vk_28 : vk 226 28 17 := ⟨by decide, by decide, by decide⟩
theorem vk_45 : vk 226 45 10 := ⟨by decide, by decide, by decide⟩
theorem vk_46 : vk 226 46 18 := ⟨by decide, by decide, by decide⟩
theorem vk_53 : vk 226 53 3 := ⟨by decide, by decide, by decide⟩
theorem R0_53_0 : R0 53 0 = some 54 := by decide
theorem R0_53_1 : R0 53 1 = some 71 := by decide
theorem R0_53_2 : R0 53 2 = some 72 := by decide
theorem vk_54 : vk 226 54 17 := ⟨by decide, by decide, by decide⟩
theorem vk_71 : vk 226 71 10 := ⟨by decide, by decide, by decide⟩
theorem vk_72 : vk 226 72 18 := ⟨by decide, by decide, by decide⟩
theorem vk_79 : vk 226 79 2 := ⟨by decide, by decide, by decide⟩
theorem R0_79_0 : R0 79 0 = some 80 := by decide
theorem vk_80 : vk 226 80 19 := ⟨by decide, by decide, by decide⟩
theorem vk_185 : vk 226 185 5 := ⟨by decide, by decide, by decide⟩
theorem R0_185_0 : R0 185 0 = some 186 := by decide
theorem R0_185_2 : R0 185 2 = some 187 := by decide
theorem vk_186 : vk 226 186 16 := ⟨by decide, by decide, by decide⟩
theorem vk_187 : vk 226 187 20 := ⟨by decide, by decide, by decide⟩
theorem vk_218 : vk 226 218 11 := ⟨by decide, by decide, by decide⟩
theorem vk_219 : vk 226 219 7 := ⟨by decide, by decide, by decide⟩
theorem R0_219_0 : R0 219 0 = some 220 := by decide
theorem R0_219_1 : R0 219 1 = some 221 := by decide
theorem R0_219_2 : R0 219 2 = some 222 := by decide
theorem R0_219_4 : R0 219 4 = some 223 := by decide
theorem R0_219_6 : R0 219 6 = some 224 := by decide
theorem R0_219_7 : R0 219 7 = some 225 := by decide
theorem vk_220 : vk 226 220 12 := ⟨by decide, by decide, by decide⟩
theorem vk_221 : vk 226 221 12 := ⟨by decide, by decide, by decide⟩
theorem vk_222 : vk 226 222 13 := ⟨by decide, by decide, by decide⟩
theorem vk_223 : vk 226 223 12 := ⟨by decide, by decide, by decide⟩
theorem vk_224 : vk 226 224 14 := ⟨by decide, by decide, by decide⟩
theorem vk_225 : vk 226 225 15 := ⟨by decide, by decide, by decide⟩
end
section
/-! the reference's own words: m is its row of numbers -/
def sumF : Nat → Int → (Int → Int) → Int
  | 0, _, _ => 0
  | n + 1, k, f => f k + sumF n (k + 1) f
def fstF (p : Int → Prop) [DecidablePred p] : Nat → Int → Int
  | 0, _ => -5
  | n + 1, k => if p k then k else fstF p n (k + 1)
theorem sumF_bd {f : Int → Int} {c : Int} : ∀ (n : Nat) (k : Int), (∀ j, k ≤ j → j < k + n → 0 ≤ f j ∧ f j ≤ c) → 0 ≤ sumF n k f ∧ sumF n k f ≤ n * c
  | 0, k, _ => ⟨Int.le_refl _, by simp [sumF]⟩
  | n + 1, k, h => by
    obtain ⟨a1, a2⟩ := sumF_bd n (k + 1) (fun j h1 h2 => h j (by omega) (by omega))
    obtain ⟨b1, b2⟩ := h k (Int.le_refl _) (by omega)
    have e : ((n + 1 : Nat) : Int) * c = n * c + c := by
      rw [Int.natCast_add, Int.add_mul]
      simp
    unfold sumF
    rw [e]
    generalize (n : Int) * c = z at a2 ⊢
    omega
theorem fstF_rg {p : Int → Prop} [DecidablePred p] : ∀ (n : Nat) (k : Int), fstF p n k = -5 ∨ (k ≤ fstF p n k ∧ fstF p n k < k + n ∧ p (fstF p n k))
  | 0, k => Or.inl rfl
  | n + 1, k => by
    unfold fstF
    by_cases h : p k
    · rw [if_pos h]
      exact Or.inr ⟨Int.le_refl _, by omega, h⟩
    · rw [if_neg h]
      rcases fstF_rg n (k + 1) (p := p) with e | ⟨e1, e2, e3⟩
      · exact Or.inl e
      · exact Or.inr ⟨by omega, by omega, e3⟩
theorem sumF_s {f : Int → Int} {n : Nat} {k : Int} : sumF (n + 1) k f = f k + sumF n (k + 1) f := rfl
theorem sumF_0 {f : Int → Int} {k : Int} : sumF 0 k f = 0 := rfl
theorem fstF_y {p : Int → Prop} [DecidablePred p] {n : Nat} {k : Int} (h : p k) : fstF p (n + 1) k = k := if_pos h
theorem fstF_n {p : Int → Prop} [DecidablePred p] {n : Nat} {k : Int} (h : ¬ p k) : fstF p (n + 1) k = fstF p n (k + 1) := if_neg h
theorem r_eqr {y : MI} {t0 pc : Nat} {L : List (Option Vv)} {S : List Vv} {M Mf : Mm} {a b : Int} (h : a = b) (kk : SPW y t0 pc L S M (some (vI a)) Mf) : SPW y t0 pc L S M (some (vI b)) Mf := h ▸ kk
abbrev owd (m : Int → Int) (w : Int) : Prop := 0 < m (128 + w) ∧ m (192 + w) ≠ -5
abbrev fre (m : Int → Int) (w : Int) : Prop := 0 < m (128 + w) ∧ m (192 + w) = -5
/-- the bounds of the row's numbers; K bounds what is only counted -/
def MW (K : Int) (m : Int → Int) : Prop :=
  (∀ w, 0 ≤ w → w < 64 → (0 ≤ m (64 + w) ∧ m (64 + w) ≤ 1) ∧ (0 ≤ m (128 + w) ∧ m (128 + w) ≤ 16) ∧ (-5 ≤ m (192 + w) ∧ m (192 + w) ≤ 299) ∧ (0 ≤ m (256 + w) ∧ m (256 + w) ≤ 5) ∧ (0 ≤ m (320 + w) ∧ m (320 + w) ≤ 14) ∧ (0 ≤ m (384 + w) ∧ m (384 + w) ≤ 9999)) ∧
  (∀ t, 0 ≤ t → t < 6 → (0 ≤ m (448 + t) ∧ m (448 + t) ≤ 1) ∧ (0 ≤ m (454 + t) ∧ m (454 + t) ≤ 64) ∧ (0 ≤ m (460 + t) ∧ m (460 + t) ≤ K)) ∧
  (0 ≤ m 466 ∧ m 466 ≤ 9999) ∧ (1 ≤ m 467 ∧ m 467 ≤ 500) ∧ (0 ≤ m 468 ∧ m 468 ≤ K) ∧ (0 ≤ m 469 ∧ m 469 ≤ K) ∧ (0 ≤ m 470 ∧ m 470 ≤ K) ∧ (0 ≤ m 471 ∧ m 471 ≤ 300) ∧ K ≤ 2000000
def begOf (m : Int → Int) (b : Int) : Int := fstF (fun w => owd m w ∧ m (192 + w) = b) 64 0
def lowF (m : Int → Int) (z : Int) : Int := fstF (fun w => fre m w ∧ m (128 + w) = z) 64 0
def bgF (m : Int → Int) : Nat → Int → Int
  | 0, w => w
  | n + 1, w => if m (128 + w) = 0 then bgF m n (w - 1) else w
def bgn (m : Int → Int) (w : Int) : Int := bgF m 64 w
def szM (words : Int) : Int := if words ≤ 2 then 4 else if words ≤ 6 then 8 else 16
def wdsM (m : Int → Int) (t : Int) : Int := sumF 64 0 (fun w => if owd m w ∧ m (256 + w) = t then m (128 + w) else 0)
def whyM (m : Int → Int) (t words : Int) : Int :=
  if m (448 + t) = 1 then 1 else if m (454 + t) < wdsM m t + szM words then 2
  else if lowF m (szM words) = -5 ∧ (8 < szM words ∨ lowF m 16 = -5) ∧ (4 < szM words ∨ lowF m 8 = -5) then 3 else 0
def brkM (m : Int → Int) (w : Int) : Int := m (64 + w) + m (64 + w + m (320 + w) + 1)
abbrev lkM (m : Int → Int) (w : Int) : Prop := owd m w ∧ (m (448 + m (256 + w)) = 1 ∨ m 467 ≤ m 466 - m (384 + w))
def lksM (m : Int → Int) (t : Int) : Int := sumF 64 0 (fun w => if lkM m w ∧ (t = 6 ∨ m (256 + w) = t) then 1 else 0)
def owsM (m : Int → Int) : Int := sumF 64 0 (fun w => if owd m w then 1 else 0)
def blksM (m : Int → Int) (t : Int) : Int := sumF 64 0 (fun w => if owd m w ∧ m (256 + w) = t then 1 else 0)
def askdM (m : Int → Int) (t : Int) : Int := sumF 64 0 (fun w => if owd m w ∧ (t = 6 ∨ m (256 + w) = t) then m (320 + w) else 0)
def frwM (m : Int → Int) : Int := sumF 64 0 (fun w => if fre m w then m (128 + w) else 0)
abbrev grdM (m : Int → Int) (w : Int) : Prop := owd m (bgn m w) ∧ (w = bgn m w ∨ w = bgn m w + m (320 + bgn m w) + 1)
def ahdM (m : Int → Int) (b : Int) : Int := sumF 64 0 (fun w => if lkM m w ∧ (m (384 + w) < m (384 + b) ∨ (m (384 + w) = m (384 + b) ∧ m (192 + w) < m (192 + b))) then 1 else 0)

theorem c_Mod_in {μ : Int → Int → Int} {v a b : Int} : MetC mi_Mod_in [vI v, vI a, vI b] (st μ) (some (vI (b2 (a ≤ v ∧ v ≤ b)))) (st (μ)) := by
  refine met_of ?_ (Nat.le_of_ble_eq_true rfl) (by decide) b2_01 (by decide) (Nat.le_of_ble_eq_true rfl)
  show SPW mi_Mod_in 226 0 [some (vI v), some (vI a), some (vI b)] [] (st μ) (some (vI (b2 (a ≤ v ∧ v ≤ b)))) (st (μ))
  refine r_iloadn dd_Mod_in_0 rfl ?_
  refine r_iloadn dd_Mod_in_1 rfl ?_
  refine r_icmp_lt dd_Mod_in_2 (fun c_2 => ?_) (fun c_2 => ?_)
  · refine r_iconst dd_Mod_in_14 ⟨by decide, by decide⟩ ?_
    exact r_retI dd_Mod_in_15 (by first | rfl | omega | exact (b2_t (by first | assumption | omega)).symm | exact (b2_f (by first | assumption | omega)).symm) rfl
  · refine r_iloadn dd_Mod_in_5 rfl ?_
    refine r_iloadn dd_Mod_in_6 rfl ?_
    refine r_icmp_gt dd_Mod_in_7 (fun c_7 => ?_) (fun c_7 => ?_)
    · refine r_iconst dd_Mod_in_14 ⟨by decide, by decide⟩ ?_
      exact r_retI dd_Mod_in_15 (by first | rfl | omega | exact (b2_t (by first | assumption | omega)).symm | exact (b2_f (by first | assumption | omega)).symm) rfl
    · refine r_iconst dd_Mod_in_10 ⟨by decide, by decide⟩ ?_
      refine r_goto dd_Mod_in_11 ?_
      exact r_retI dd_Mod_in_15 (by first | rfl | omega | exact (b2_t (by first | assumption | omega)).symm | exact (b2_f (by first | assumption | omega)).symm) rfl
theorem c_Mod_isTask {μ : Int → Int → Int} {t : Int} : MetC mi_Mod_isTask [vI t] (st μ) (some (vI (b2 (0 ≤ t ∧ t ≤ 5)))) (st (μ)) := by
  refine met_of ?_ (Nat.le_of_ble_eq_true rfl) (by decide) b2_01 (by decide) (Nat.le_of_ble_eq_true rfl)
  show SPW mi_Mod_isTask 226 0 [some (vI t)] [] (st μ) (some (vI (b2 (0 ≤ t ∧ t ≤ 5)))) (st (μ))
  refine r_iloadn dd_Mod_isTask_0 rfl ?_
  refine r_iconst dd_Mod_isTask_1 ⟨by decide, by decide⟩ ?_
  refine r_iconst dd_Mod_isTask_2 ⟨by decide, by decide⟩ ?_
  refine r_S3W dd_Mod_isTask_3 ml_Mod_35 ok_Mod_in st_Mod_in (clS rfl (Nat.le_refl _) (rmOK_self _ _)) rfl c_Mod_in ?_
  exact r_retI dd_Mod_isTask_6 rfl rfl
theorem c_Mod_isFree {μ : Int → Int → Int} {w : Int} (h0 : 0 ≤ w) (h1 : w < 64) : MetC mi_Mod_isFree [vR 219, vI w] (st μ) (some (vI (b2 (fre (μ 220) w)))) (st (μ)) := by
  refine met_of ?_ (Nat.le_of_ble_eq_true rfl) (by decide) b2_01 (by decide) (Nat.le_of_ble_eq_true rfl)
  show SPW mi_Mod_isFree 226 0 [some (vR 219), some (vI w)] [] (st μ) (some (vI (b2 (fre (μ 220) w)))) (st (μ))
  refine r_aloadn dd_Mod_isFree_0 rfl ?_
  refine r_getR dd_Mod_isFree_1 fl_Mod_7 (kI := 0) rfl fr_Mod_0 vk_219 R0_219_0 ?_
  refine r_sip dd_Mod_isFree_4 ⟨by decide, by decide⟩ ?_
  refine r_iloadn dd_Mod_isFree_7 rfl ?_
  refine r_iadd dd_Mod_isFree_8 ⟨by omega, by omega⟩ ?_
  refine r_iald dd_Mod_isFree_9 (q := 12) (by decide) vk_220 (by omega) (by show _ < ((472 : Nat) : Int); omega) ?_
  refine r_if_le dd_Mod_isFree_10 (fun c_10 => ?_) (fun c_10 => ?_)
  · refine r_iconst dd_Mod_isFree_32 ⟨by decide, by decide⟩ ?_
    exact r_retI dd_Mod_isFree_33 (by first | rfl | omega | exact (b2_t (by first | assumption | omega)).symm | exact (b2_f (by first | assumption | omega)).symm) rfl
  · refine r_aloadn dd_Mod_isFree_13 rfl ?_
    refine r_getR dd_Mod_isFree_14 fl_Mod_7 (kI := 0) rfl fr_Mod_0 vk_219 R0_219_0 ?_
    refine r_sip dd_Mod_isFree_17 ⟨by decide, by decide⟩ ?_
    refine r_iloadn dd_Mod_isFree_20 rfl ?_
    refine r_iadd dd_Mod_isFree_21 ⟨by omega, by omega⟩ ?_
    refine r_iald dd_Mod_isFree_22 (q := 12) (by decide) vk_220 (by omega) (by show _ < ((472 : Nat) : Int); omega) ?_
    refine r_bip dd_Mod_isFree_23 ⟨by decide, by decide⟩ ?_
    refine r_icmp_ne dd_Mod_isFree_25 (fun c_25 => ?_) (fun c_25 => ?_)
    · refine r_iconst dd_Mod_isFree_32 ⟨by decide, by decide⟩ ?_
      exact r_retI dd_Mod_isFree_33 (by first | rfl | omega | exact (b2_t (by first | assumption | omega)).symm | exact (b2_f (by first | assumption | omega)).symm) rfl
    · refine r_iconst dd_Mod_isFree_28 ⟨by decide, by decide⟩ ?_
      refine r_goto dd_Mod_isFree_29 ?_
      exact r_retI dd_Mod_isFree_33 (by first | rfl | omega | exact (b2_t (by first | assumption | omega)).symm | exact (b2_f (by first | assumption | omega)).symm) rfl
theorem c_Mod_isOwned {μ : Int → Int → Int} {w : Int} (h0 : 0 ≤ w) (h1 : w < 64) : MetC mi_Mod_isOwned [vR 219, vI w] (st μ) (some (vI (b2 (owd (μ 220) w)))) (st (μ)) := by
  refine met_of ?_ (Nat.le_of_ble_eq_true rfl) (by decide) b2_01 (by decide) (Nat.le_of_ble_eq_true rfl)
  show SPW mi_Mod_isOwned 226 0 [some (vR 219), some (vI w)] [] (st μ) (some (vI (b2 (owd (μ 220) w)))) (st (μ))
  refine r_aloadn dd_Mod_isOwned_0 rfl ?_
  refine r_getR dd_Mod_isOwned_1 fl_Mod_7 (kI := 0) rfl fr_Mod_0 vk_219 R0_219_0 ?_
  refine r_sip dd_Mod_isOwned_4 ⟨by decide, by decide⟩ ?_
  refine r_iloadn dd_Mod_isOwned_7 rfl ?_
  refine r_iadd dd_Mod_isOwned_8 ⟨by omega, by omega⟩ ?_
  refine r_iald dd_Mod_isOwned_9 (q := 12) (by decide) vk_220 (by omega) (by show _ < ((472 : Nat) : Int); omega) ?_
  refine r_if_le dd_Mod_isOwned_10 (fun c_10 => ?_) (fun c_10 => ?_)
  · refine r_iconst dd_Mod_isOwned_32 ⟨by decide, by decide⟩ ?_
    exact r_retI dd_Mod_isOwned_33 (by first | rfl | omega | exact (b2_t (by first | assumption | omega)).symm | exact (b2_f (by first | assumption | omega)).symm) rfl
  · refine r_aloadn dd_Mod_isOwned_13 rfl ?_
    refine r_getR dd_Mod_isOwned_14 fl_Mod_7 (kI := 0) rfl fr_Mod_0 vk_219 R0_219_0 ?_
    refine r_sip dd_Mod_isOwned_17 ⟨by decide, by decide⟩ ?_
    refine r_iloadn dd_Mod_isOwned_20 rfl ?_
    refine r_iadd dd_Mod_isOwned_21 ⟨by omega, by omega⟩ ?_
    refine r_iald dd_Mod_isOwned_22 (q := 12) (by decide) vk_220 (by omega) (by show _ < ((472 : Nat) : Int); omega) ?_
    refine r_bip dd_Mod_isOwned_23 ⟨by decide, by decide⟩ ?_
    refine r_icmp_eq dd_Mod_isOwned_25 (fun c_25 => ?_) (fun c_25 => ?_)
    · refine r_iconst dd_Mod_isOwned_32 ⟨by decide, by decide⟩ ?_
      exact r_retI dd_Mod_isOwned_33 (by first | rfl | omega | exact (b2_t (by first | assumption | omega)).symm | exact (b2_f (by first | assumption | omega)).symm) rfl
    · refine r_iconst dd_Mod_isOwned_28 ⟨by decide, by decide⟩ ?_
      refine r_goto dd_Mod_isOwned_29 ?_
      exact r_retI dd_Mod_isOwned_33 (by first | rfl | omega | exact (b2_t (by first | assumption | omega)).symm | exact (b2_f (by first | assumption | omega)).symm) rfl
theorem l_Mod_beginOf {μ : Int → Int → Int} {b : Int} : ∀ (n : Nat) (w : Int), (w + n = 64) → (0 ≤ w) → SPW mi_Mod_beginOf 226 2 [some (vR 219), some (vI b), some (vI w)] [] (st (μ)) (some (vI (fstF (fun w => owd (μ 220) w ∧ μ 220 (192 + w) = b) (n) w))) (st (μ)) := by
  intro n
  induction n with
  | zero =>
    intro w h0 h1
    refine r_iloadn dd_Mod_beginOf_2 rfl ?_
    refine r_bip dd_Mod_beginOf_3 ⟨by decide, by decide⟩ ?_
    refine r_icmp_ge dd_Mod_beginOf_5 (fun c_5 => ?_) (fun c_5 => ?_)
    · refine r_bip dd_Mod_beginOf_38 ⟨by decide, by decide⟩ ?_
      exact r_retI dd_Mod_beginOf_40 (by first | exact (fstF_y (by omega)).symm | rfl) rfl
    · exfalso; omega
  | succ n ih =>
    intro w h0 h1
    refine r_iloadn dd_Mod_beginOf_2 rfl ?_
    refine r_bip dd_Mod_beginOf_3 ⟨by decide, by decide⟩ ?_
    refine r_icmp_ge dd_Mod_beginOf_5 (fun c_5 => ?_) (fun c_5 => ?_)
    · exfalso; omega
    · refine r_aloadn dd_Mod_beginOf_8 rfl ?_
      refine r_iloadn dd_Mod_beginOf_9 rfl ?_
      refine r_V1W dd_Mod_beginOf_10 ml_Mod_42 ok_Mod_isOwned vi_Mod_isOwned vk_219 (by decide) (clS rfl (Nat.le_refl _) (rmOK_self _ _)) rfl (c_Mod_isOwned (by omega) (by omega)) ?_
      refine r_if_eq_b dd_Mod_beginOf_13 (fun c_13 => ?_) (fun c_13 => ?_)
      · refine r_iinc (L' := [_, _, _]) dd_Mod_beginOf_32 rfl ⟨by omega, by omega⟩ rfl ?_
        refine r_goto dd_Mod_beginOf_35 ?_
        refine r_eqr (fstF_n (by omega)).symm (ih (w + 1) (by omega) (by omega))
      · refine r_aloadn dd_Mod_beginOf_16 rfl ?_
        refine r_getR dd_Mod_beginOf_17 fl_Mod_7 (kI := 0) rfl fr_Mod_0 vk_219 R0_219_0 ?_
        refine r_sip dd_Mod_beginOf_20 ⟨by decide, by decide⟩ ?_
        refine r_iloadn dd_Mod_beginOf_23 rfl ?_
        refine r_iadd dd_Mod_beginOf_24 ⟨by omega, by omega⟩ ?_
        refine r_iald dd_Mod_beginOf_25 (q := 12) (by decide) vk_220 (by omega) (by show _ < ((472 : Nat) : Int); omega) ?_
        refine r_iloadn dd_Mod_beginOf_26 rfl ?_
        refine r_icmp_ne dd_Mod_beginOf_27 (fun c_27 => ?_) (fun c_27 => ?_)
        · refine r_iinc (L' := [_, _, _]) dd_Mod_beginOf_32 rfl ⟨by omega, by omega⟩ rfl ?_
          refine r_goto dd_Mod_beginOf_35 ?_
          refine r_eqr (fstF_n (by omega)).symm (ih (w + 1) (by omega) (by omega))
        · refine r_iloadn dd_Mod_beginOf_30 rfl ?_
          exact r_retI dd_Mod_beginOf_31 (by first | exact (fstF_y (by omega)).symm | rfl) rfl
theorem c_Mod_beginOf {μ : Int → Int → Int} {b : Int} : MetC mi_Mod_beginOf [vR 219, vI b] (st μ) (some (vI (begOf (μ 220) b))) (st (μ)) := by
  refine met_of ?_ (Nat.le_of_ble_eq_true rfl) (by decide) trivial (by decide) (Nat.le_of_ble_eq_true rfl)
  show SPW mi_Mod_beginOf 226 0 [some (vR 219), some (vI b), none] [] (st μ) (some (vI (begOf (μ 220) b))) (st (μ))
  refine r_iconst dd_Mod_beginOf_0 ⟨by decide, by decide⟩ ?_
  refine r_istoren (L' := [_, _, _]) dd_Mod_beginOf_1 rfl rfl ?_
  exact l_Mod_beginOf 64 0 (by decide) (by decide)
theorem l_Mod_lowestFree {μ : Int → Int → Int} {z : Int} : ∀ (n : Nat) (w : Int), (w + n = 64) → (0 ≤ w) → SPW mi_Mod_lowestFree 226 2 [some (vR 219), some (vI z), some (vI w)] [] (st (μ)) (some (vI (fstF (fun w => fre (μ 220) w ∧ μ 220 (128 + w) = z) (n) w))) (st (μ)) := by
  intro n
  induction n with
  | zero =>
    intro w h0 h1
    refine r_iloadn dd_Mod_lowestFree_2 rfl ?_
    refine r_bip dd_Mod_lowestFree_3 ⟨by decide, by decide⟩ ?_
    refine r_icmp_ge dd_Mod_lowestFree_5 (fun c_5 => ?_) (fun c_5 => ?_)
    · refine r_bip dd_Mod_lowestFree_38 ⟨by decide, by decide⟩ ?_
      exact r_retI dd_Mod_lowestFree_40 (by first | exact (fstF_y (by omega)).symm | rfl) rfl
    · exfalso; omega
  | succ n ih =>
    intro w h0 h1
    refine r_iloadn dd_Mod_lowestFree_2 rfl ?_
    refine r_bip dd_Mod_lowestFree_3 ⟨by decide, by decide⟩ ?_
    refine r_icmp_ge dd_Mod_lowestFree_5 (fun c_5 => ?_) (fun c_5 => ?_)
    · exfalso; omega
    · refine r_aloadn dd_Mod_lowestFree_8 rfl ?_
      refine r_iloadn dd_Mod_lowestFree_9 rfl ?_
      refine r_V1W dd_Mod_lowestFree_10 ml_Mod_50 ok_Mod_isFree vi_Mod_isFree vk_219 (by decide) (clS rfl (Nat.le_refl _) (rmOK_self _ _)) rfl (c_Mod_isFree (by omega) (by omega)) ?_
      refine r_if_eq_b dd_Mod_lowestFree_13 (fun c_13 => ?_) (fun c_13 => ?_)
      · refine r_iinc (L' := [_, _, _]) dd_Mod_lowestFree_32 rfl ⟨by omega, by omega⟩ rfl ?_
        refine r_goto dd_Mod_lowestFree_35 ?_
        refine r_eqr (fstF_n (by omega)).symm (ih (w + 1) (by omega) (by omega))
      · refine r_aloadn dd_Mod_lowestFree_16 rfl ?_
        refine r_getR dd_Mod_lowestFree_17 fl_Mod_7 (kI := 0) rfl fr_Mod_0 vk_219 R0_219_0 ?_
        refine r_sip dd_Mod_lowestFree_20 ⟨by decide, by decide⟩ ?_
        refine r_iloadn dd_Mod_lowestFree_23 rfl ?_
        refine r_iadd dd_Mod_lowestFree_24 ⟨by omega, by omega⟩ ?_
        refine r_iald dd_Mod_lowestFree_25 (q := 12) (by decide) vk_220 (by omega) (by show _ < ((472 : Nat) : Int); omega) ?_
        refine r_iloadn dd_Mod_lowestFree_26 rfl ?_
        refine r_icmp_ne dd_Mod_lowestFree_27 (fun c_27 => ?_) (fun c_27 => ?_)
        · refine r_iinc (L' := [_, _, _]) dd_Mod_lowestFree_32 rfl ⟨by omega, by omega⟩ rfl ?_
          refine r_goto dd_Mod_lowestFree_35 ?_
          refine r_eqr (fstF_n (by omega)).symm (ih (w + 1) (by omega) (by omega))
        · refine r_iloadn dd_Mod_lowestFree_30 rfl ?_
          exact r_retI dd_Mod_lowestFree_31 (by first | exact (fstF_y (by omega)).symm | rfl) rfl
theorem c_Mod_lowestFree {μ : Int → Int → Int} {z : Int} : MetC mi_Mod_lowestFree [vR 219, vI z] (st μ) (some (vI (lowF (μ 220) z))) (st (μ)) := by
  refine met_of ?_ (Nat.le_of_ble_eq_true rfl) (by decide) trivial (by decide) (Nat.le_of_ble_eq_true rfl)
  show SPW mi_Mod_lowestFree 226 0 [some (vR 219), some (vI z), none] [] (st μ) (some (vI (lowF (μ 220) z))) (st (μ))
  refine r_iconst dd_Mod_lowestFree_0 ⟨by decide, by decide⟩ ?_
  refine r_istoren (L' := [_, _, _]) dd_Mod_lowestFree_1 rfl rfl ?_
  exact l_Mod_lowestFree 64 0 (by decide) (by decide)
theorem c_Mod_sizeFor {μ : Int → Int → Int} {words : Int} : MetC mi_Mod_sizeFor [vI words] (st μ) (some (vI (szM words))) (st (μ)) := by
  refine met_of ?_ (Nat.le_of_ble_eq_true rfl) (by decide) trivial (by decide) (Nat.le_of_ble_eq_true rfl)
  show SPW mi_Mod_sizeFor 226 0 [some (vI words)] [] (st μ) (some (vI (szM words))) (st (μ))
  refine r_iloadn dd_Mod_sizeFor_0 rfl ?_
  refine r_iconst dd_Mod_sizeFor_1 ⟨by decide, by decide⟩ ?_
  refine r_icmp_gt dd_Mod_sizeFor_2 (fun c_2 => ?_) (fun c_2 => ?_)
  · refine r_iloadn dd_Mod_sizeFor_9 rfl ?_
    refine r_bip dd_Mod_sizeFor_10 ⟨by decide, by decide⟩ ?_
    refine r_icmp_gt dd_Mod_sizeFor_12 (fun c_12 => ?_) (fun c_12 => ?_)
    · refine r_bip dd_Mod_sizeFor_20 ⟨by decide, by decide⟩ ?_
      exact r_retI dd_Mod_sizeFor_22 (by unfold szM; first | (rw [if_pos (by omega)]; done) | (rw [if_neg (by omega), if_pos (by omega)]; done) | (rw [if_neg (by omega), if_neg (by omega)]; done)) rfl
    · refine r_bip dd_Mod_sizeFor_15 ⟨by decide, by decide⟩ ?_
      refine r_goto dd_Mod_sizeFor_17 ?_
      exact r_retI dd_Mod_sizeFor_22 (by unfold szM; first | (rw [if_pos (by omega)]; done) | (rw [if_neg (by omega), if_pos (by omega)]; done) | (rw [if_neg (by omega), if_neg (by omega)]; done)) rfl
  · refine r_iconst dd_Mod_sizeFor_5 ⟨by decide, by decide⟩ ?_
    refine r_goto dd_Mod_sizeFor_6 ?_
    exact r_retI dd_Mod_sizeFor_22 (by unfold szM; first | (rw [if_pos (by omega)]; done) | (rw [if_neg (by omega), if_pos (by omega)]; done) | (rw [if_neg (by omega), if_neg (by omega)]; done)) rfl
theorem l_Mod_wordsOf {μ : Int → Int → Int} {K : Int} {t : Int} (hW : MW K (μ 220)) : ∀ (n : Nat) (w a : Int), (w + n = 64) → (0 ≤ w) → (0 ≤ a ∧ a ≤ w * 16) → SPW mi_Mod_wordsOf 226 4 [some (vR 219), some (vI t), some (vI a), some (vI w)] [] (st (μ)) (some (vI (a + sumF (n) w (fun w => if owd (μ 220) w ∧ μ 220 (256 + w) = t then μ 220 (128 + w) else 0)))) (st (μ)) := by
  intro n
  induction n with
  | zero =>
    intro w a h0 h1 h2
    refine r_iloadn dd_Mod_wordsOf_4 rfl ?_
    refine r_bip dd_Mod_wordsOf_5 ⟨by decide, by decide⟩ ?_
    refine r_icmp_ge dd_Mod_wordsOf_7 (fun c_7 => ?_) (fun c_7 => ?_)
    · refine r_iloadn dd_Mod_wordsOf_55 rfl ?_
      exact r_retI dd_Mod_wordsOf_56 (by rw [sumF_0]; omega) rfl
    · exfalso; omega
  | succ n ih =>
    intro w a h0 h1 h2
    have hb := hW.1 w h1 (by omega)
    refine r_iloadn dd_Mod_wordsOf_4 rfl ?_
    refine r_bip dd_Mod_wordsOf_5 ⟨by decide, by decide⟩ ?_
    refine r_icmp_ge dd_Mod_wordsOf_7 (fun c_7 => ?_) (fun c_7 => ?_)
    · exfalso; omega
    · refine r_iloadn dd_Mod_wordsOf_10 rfl ?_
      refine r_aloadn dd_Mod_wordsOf_11 rfl ?_
      refine r_iloadn dd_Mod_wordsOf_12 rfl ?_
      refine r_V1W dd_Mod_wordsOf_13 ml_Mod_42 ok_Mod_isOwned vi_Mod_isOwned vk_219 (by decide) (clS rfl (Nat.le_refl _) (rmOK_self _ _)) rfl (c_Mod_isOwned (by omega) (by omega)) ?_
      refine r_if_eq_b dd_Mod_wordsOf_16 (fun c_16 => ?_) (fun c_16 => ?_)
      · refine r_iconst dd_Mod_wordsOf_46 ⟨by decide, by decide⟩ ?_
        refine r_iadd dd_Mod_wordsOf_47 ⟨by omega, by omega⟩ ?_
        refine r_istoren (L' := [_, _, _, _]) dd_Mod_wordsOf_48 rfl rfl ?_
        refine r_iinc (L' := [_, _, _, _]) dd_Mod_wordsOf_49 rfl ⟨by omega, by omega⟩ rfl ?_
        refine r_goto dd_Mod_wordsOf_52 ?_
        refine r_eqr (by rw [sumF_s]; first | (rw [if_pos (by omega)]; omega) | (rw [if_neg (by omega)]; omega)) (ih (w + 1) _ (by omega) (by omega) ⟨by omega, by omega⟩)
      · refine r_aloadn dd_Mod_wordsOf_19 rfl ?_
        refine r_getR dd_Mod_wordsOf_20 fl_Mod_7 (kI := 0) rfl fr_Mod_0 vk_219 R0_219_0 ?_
        refine r_sip dd_Mod_wordsOf_23 ⟨by decide, by decide⟩ ?_
        refine r_iloadn dd_Mod_wordsOf_26 rfl ?_
        refine r_iadd dd_Mod_wordsOf_27 ⟨by omega, by omega⟩ ?_
        refine r_iald dd_Mod_wordsOf_28 (q := 12) (by decide) vk_220 (by omega) (by show _ < ((472 : Nat) : Int); omega) ?_
        refine r_iloadn dd_Mod_wordsOf_29 rfl ?_
        refine r_icmp_ne dd_Mod_wordsOf_30 (fun c_30 => ?_) (fun c_30 => ?_)
        · refine r_iconst dd_Mod_wordsOf_46 ⟨by decide, by decide⟩ ?_
          refine r_iadd dd_Mod_wordsOf_47 ⟨by omega, by omega⟩ ?_
          refine r_istoren (L' := [_, _, _, _]) dd_Mod_wordsOf_48 rfl rfl ?_
          refine r_iinc (L' := [_, _, _, _]) dd_Mod_wordsOf_49 rfl ⟨by omega, by omega⟩ rfl ?_
          refine r_goto dd_Mod_wordsOf_52 ?_
          refine r_eqr (by rw [sumF_s]; first | (rw [if_pos (by omega)]; omega) | (rw [if_neg (by omega)]; omega)) (ih (w + 1) _ (by omega) (by omega) ⟨by omega, by omega⟩)
        · refine r_aloadn dd_Mod_wordsOf_33 rfl ?_
          refine r_getR dd_Mod_wordsOf_34 fl_Mod_7 (kI := 0) rfl fr_Mod_0 vk_219 R0_219_0 ?_
          refine r_sip dd_Mod_wordsOf_37 ⟨by decide, by decide⟩ ?_
          refine r_iloadn dd_Mod_wordsOf_40 rfl ?_
          refine r_iadd dd_Mod_wordsOf_41 ⟨by omega, by omega⟩ ?_
          refine r_iald dd_Mod_wordsOf_42 (q := 12) (by decide) vk_220 (by omega) (by show _ < ((472 : Nat) : Int); omega) ?_
          refine r_goto dd_Mod_wordsOf_43 ?_
          refine r_iadd dd_Mod_wordsOf_47 ⟨by omega, by omega⟩ ?_
          refine r_istoren (L' := [_, _, _, _]) dd_Mod_wordsOf_48 rfl rfl ?_
          refine r_iinc (L' := [_, _, _, _]) dd_Mod_wordsOf_49 rfl ⟨by omega, by omega⟩ rfl ?_
          refine r_goto dd_Mod_wordsOf_52 ?_
          refine r_eqr (by rw [sumF_s]; first | (rw [if_pos (by omega)]; omega) | (rw [if_neg (by omega)]; omega)) (ih (w + 1) _ (by omega) (by omega) ⟨by omega, by omega⟩)
theorem c_Mod_wordsOf {μ : Int → Int → Int} {K t : Int} (hW : MW K (μ 220)) : MetC mi_Mod_wordsOf [vR 219, vI t] (st μ) (some (vI (wdsM (μ 220) t))) (st (μ)) := by
  refine met_of ?_ (Nat.le_of_ble_eq_true rfl) (by decide) trivial (by decide) (Nat.le_of_ble_eq_true rfl)
  show SPW mi_Mod_wordsOf 226 0 [some (vR 219), some (vI t), none, none] [] (st μ) (some (vI (wdsM (μ 220) t))) (st (μ))
  refine r_iconst dd_Mod_wordsOf_0 ⟨by decide, by decide⟩ ?_
  refine r_istoren (L' := [_, _, _, _]) dd_Mod_wordsOf_1 rfl rfl ?_
  refine r_iconst dd_Mod_wordsOf_2 ⟨by decide, by decide⟩ ?_
  refine r_istoren (L' := [_, _, _, _]) dd_Mod_wordsOf_3 rfl rfl ?_
  exact r_eqr (Int.zero_add _) (l_Mod_wordsOf hW 64 0 0 (by decide) (by decide) ⟨by decide, by decide⟩)
theorem l_Mod_blocksOf {μ : Int → Int → Int} {K : Int} {t : Int} (hW : MW K (μ 220)) : ∀ (n : Nat) (w a : Int), (w + n = 64) → (0 ≤ w) → (0 ≤ a ∧ a ≤ w * 1) → SPW mi_Mod_blocksOf 226 4 [some (vR 219), some (vI t), some (vI a), some (vI w)] [] (st (μ)) (some (vI (a + sumF (n) w (fun w => if owd (μ 220) w ∧ μ 220 (256 + w) = t then 1 else 0)))) (st (μ)) := by
  intro n
  induction n with
  | zero =>
    intro w a h0 h1 h2
    refine r_iloadn dd_Mod_blocksOf_4 rfl ?_
    refine r_bip dd_Mod_blocksOf_5 ⟨by decide, by decide⟩ ?_
    refine r_icmp_ge dd_Mod_blocksOf_7 (fun c_7 => ?_) (fun c_7 => ?_)
    · refine r_iloadn dd_Mod_blocksOf_46 rfl ?_
      exact r_retI dd_Mod_blocksOf_47 (by rw [sumF_0]; omega) rfl
    · exfalso; omega
  | succ n ih =>
    intro w a h0 h1 h2
    have hb := hW.1 w h1 (by omega)
    refine r_iloadn dd_Mod_blocksOf_4 rfl ?_
    refine r_bip dd_Mod_blocksOf_5 ⟨by decide, by decide⟩ ?_
    refine r_icmp_ge dd_Mod_blocksOf_7 (fun c_7 => ?_) (fun c_7 => ?_)
    · exfalso; omega
    · refine r_iloadn dd_Mod_blocksOf_10 rfl ?_
      refine r_aloadn dd_Mod_blocksOf_11 rfl ?_
      refine r_iloadn dd_Mod_blocksOf_12 rfl ?_
      refine r_V1W dd_Mod_blocksOf_13 ml_Mod_42 ok_Mod_isOwned vi_Mod_isOwned vk_219 (by decide) (clS rfl (Nat.le_refl _) (rmOK_self _ _)) rfl (c_Mod_isOwned (by omega) (by omega)) ?_
      refine r_if_eq_b dd_Mod_blocksOf_16 (fun c_16 => ?_) (fun c_16 => ?_)
      · refine r_iconst dd_Mod_blocksOf_37 ⟨by decide, by decide⟩ ?_
        refine r_iadd dd_Mod_blocksOf_38 ⟨by omega, by omega⟩ ?_
        refine r_istoren (L' := [_, _, _, _]) dd_Mod_blocksOf_39 rfl rfl ?_
        refine r_iinc (L' := [_, _, _, _]) dd_Mod_blocksOf_40 rfl ⟨by omega, by omega⟩ rfl ?_
        refine r_goto dd_Mod_blocksOf_43 ?_
        refine r_eqr (by rw [sumF_s]; first | (rw [if_pos (by omega)]; omega) | (rw [if_neg (by omega)]; omega)) (ih (w + 1) _ (by omega) (by omega) ⟨by omega, by omega⟩)
      · refine r_aloadn dd_Mod_blocksOf_19 rfl ?_
        refine r_getR dd_Mod_blocksOf_20 fl_Mod_7 (kI := 0) rfl fr_Mod_0 vk_219 R0_219_0 ?_
        refine r_sip dd_Mod_blocksOf_23 ⟨by decide, by decide⟩ ?_
        refine r_iloadn dd_Mod_blocksOf_26 rfl ?_
        refine r_iadd dd_Mod_blocksOf_27 ⟨by omega, by omega⟩ ?_
        refine r_iald dd_Mod_blocksOf_28 (q := 12) (by decide) vk_220 (by omega) (by show _ < ((472 : Nat) : Int); omega) ?_
        refine r_iloadn dd_Mod_blocksOf_29 rfl ?_
        refine r_icmp_ne dd_Mod_blocksOf_30 (fun c_30 => ?_) (fun c_30 => ?_)
        · refine r_iconst dd_Mod_blocksOf_37 ⟨by decide, by decide⟩ ?_
          refine r_iadd dd_Mod_blocksOf_38 ⟨by omega, by omega⟩ ?_
          refine r_istoren (L' := [_, _, _, _]) dd_Mod_blocksOf_39 rfl rfl ?_
          refine r_iinc (L' := [_, _, _, _]) dd_Mod_blocksOf_40 rfl ⟨by omega, by omega⟩ rfl ?_
          refine r_goto dd_Mod_blocksOf_43 ?_
          refine r_eqr (by rw [sumF_s]; first | (rw [if_pos (by omega)]; omega) | (rw [if_neg (by omega)]; omega)) (ih (w + 1) _ (by omega) (by omega) ⟨by omega, by omega⟩)
        · refine r_iconst dd_Mod_blocksOf_33 ⟨by decide, by decide⟩ ?_
          refine r_goto dd_Mod_blocksOf_34 ?_
          refine r_iadd dd_Mod_blocksOf_38 ⟨by omega, by omega⟩ ?_
          refine r_istoren (L' := [_, _, _, _]) dd_Mod_blocksOf_39 rfl rfl ?_
          refine r_iinc (L' := [_, _, _, _]) dd_Mod_blocksOf_40 rfl ⟨by omega, by omega⟩ rfl ?_
          refine r_goto dd_Mod_blocksOf_43 ?_
          refine r_eqr (by rw [sumF_s]; first | (rw [if_pos (by omega)]; omega) | (rw [if_neg (by omega)]; omega)) (ih (w + 1) _ (by omega) (by omega) ⟨by omega, by omega⟩)
theorem c_Mod_blocksOf {μ : Int → Int → Int} {K t : Int} (hW : MW K (μ 220)) : MetC mi_Mod_blocksOf [vR 219, vI t] (st μ) (some (vI (blksM (μ 220) t))) (st (μ)) := by
  refine met_of ?_ (Nat.le_of_ble_eq_true rfl) (by decide) trivial (by decide) (Nat.le_of_ble_eq_true rfl)
  show SPW mi_Mod_blocksOf 226 0 [some (vR 219), some (vI t), none, none] [] (st μ) (some (vI (blksM (μ 220) t))) (st (μ))
  refine r_iconst dd_Mod_blocksOf_0 ⟨by decide, by decide⟩ ?_
  refine r_istoren (L' := [_, _, _, _]) dd_Mod_blocksOf_1 rfl rfl ?_
  refine r_iconst dd_Mod_blocksOf_2 ⟨by decide, by decide⟩ ?_
  refine r_istoren (L' := [_, _, _, _]) dd_Mod_blocksOf_3 rfl rfl ?_
  exact r_eqr (Int.zero_add _) (l_Mod_blocksOf hW 64 0 0 (by decide) (by decide) ⟨by decide, by decide⟩)
theorem l_Mod_owned {μ : Int → Int → Int} {K : Int} (hW : MW K (μ 220)) : ∀ (n : Nat) (w a : Int), (w + n = 64) → (0 ≤ w) → (0 ≤ a ∧ a ≤ w * 1) → SPW mi_Mod_owned 226 4 [some (vR 219), some (vI a), some (vI w)] [] (st (μ)) (some (vI (a + sumF (n) w (fun w => if owd (μ 220) w then 1 else 0)))) (st (μ)) := by
  intro n
  induction n with
  | zero =>
    intro w a h0 h1 h2
    refine r_iloadn dd_Mod_owned_4 rfl ?_
    refine r_bip dd_Mod_owned_5 ⟨by decide, by decide⟩ ?_
    refine r_icmp_ge dd_Mod_owned_7 (fun c_7 => ?_) (fun c_7 => ?_)
    · refine r_iloadn dd_Mod_owned_32 rfl ?_
      exact r_retI dd_Mod_owned_33 (by rw [sumF_0]; omega) rfl
    · exfalso; omega
  | succ n ih =>
    intro w a h0 h1 h2
    have hb := hW.1 w h1 (by omega)
    refine r_iloadn dd_Mod_owned_4 rfl ?_
    refine r_bip dd_Mod_owned_5 ⟨by decide, by decide⟩ ?_
    refine r_icmp_ge dd_Mod_owned_7 (fun c_7 => ?_) (fun c_7 => ?_)
    · exfalso; omega
    · refine r_iloadn dd_Mod_owned_10 rfl ?_
      refine r_aloadn dd_Mod_owned_11 rfl ?_
      refine r_iloadn dd_Mod_owned_12 rfl ?_
      refine r_V1W dd_Mod_owned_13 ml_Mod_42 ok_Mod_isOwned vi_Mod_isOwned vk_219 (by decide) (clS rfl (Nat.le_refl _) (rmOK_self _ _)) rfl (c_Mod_isOwned (by omega) (by omega)) ?_
      refine r_if_eq_b dd_Mod_owned_16 (fun c_16 => ?_) (fun c_16 => ?_)
      · refine r_iconst dd_Mod_owned_23 ⟨by decide, by decide⟩ ?_
        refine r_iadd dd_Mod_owned_24 ⟨by omega, by omega⟩ ?_
        refine r_istoren (L' := [_, _, _]) dd_Mod_owned_25 rfl rfl ?_
        refine r_iinc (L' := [_, _, _]) dd_Mod_owned_26 rfl ⟨by omega, by omega⟩ rfl ?_
        refine r_goto dd_Mod_owned_29 ?_
        refine r_eqr (by rw [sumF_s]; first | (rw [if_pos (by omega)]; omega) | (rw [if_neg (by omega)]; omega)) (ih (w + 1) _ (by omega) (by omega) ⟨by omega, by omega⟩)
      · refine r_iconst dd_Mod_owned_19 ⟨by decide, by decide⟩ ?_
        refine r_goto dd_Mod_owned_20 ?_
        refine r_iadd dd_Mod_owned_24 ⟨by omega, by omega⟩ ?_
        refine r_istoren (L' := [_, _, _]) dd_Mod_owned_25 rfl rfl ?_
        refine r_iinc (L' := [_, _, _]) dd_Mod_owned_26 rfl ⟨by omega, by omega⟩ rfl ?_
        refine r_goto dd_Mod_owned_29 ?_
        refine r_eqr (by rw [sumF_s]; first | (rw [if_pos (by omega)]; omega) | (rw [if_neg (by omega)]; omega)) (ih (w + 1) _ (by omega) (by omega) ⟨by omega, by omega⟩)
theorem c_Mod_owned {μ : Int → Int → Int} {K : Int} (hW : MW K (μ 220)) : MetC mi_Mod_owned [vR 219] (st μ) (some (vI (owsM (μ 220)))) (st (μ)) := by
  refine met_of ?_ (Nat.le_of_ble_eq_true rfl) (by decide) trivial (by decide) (Nat.le_of_ble_eq_true rfl)
  show SPW mi_Mod_owned 226 0 [some (vR 219), none, none] [] (st μ) (some (vI (owsM (μ 220)))) (st (μ))
  refine r_iconst dd_Mod_owned_0 ⟨by decide, by decide⟩ ?_
  refine r_istoren (L' := [_, _, _]) dd_Mod_owned_1 rfl rfl ?_
  refine r_iconst dd_Mod_owned_2 ⟨by decide, by decide⟩ ?_
  refine r_istoren (L' := [_, _, _]) dd_Mod_owned_3 rfl rfl ?_
  exact r_eqr (Int.zero_add _) (l_Mod_owned hW 64 0 0 (by decide) (by decide) ⟨by decide, by decide⟩)
theorem l_Mod_asked {μ : Int → Int → Int} {K : Int} {t : Int} (hW : MW K (μ 220)) : ∀ (n : Nat) (w a : Int), (w + n = 64) → (0 ≤ w) → (0 ≤ a ∧ a ≤ w * 14) → SPW mi_Mod_asked 226 4 [some (vR 219), some (vI t), some (vI a), some (vI w)] [] (st (μ)) (some (vI (a + sumF (n) w (fun w => if owd (μ 220) w ∧ (t = 6 ∨ μ 220 (256 + w) = t) then μ 220 (320 + w) else 0)))) (st (μ)) := by
  intro n
  induction n with
  | zero =>
    intro w a h0 h1 h2
    refine r_iloadn dd_Mod_asked_4 rfl ?_
    refine r_bip dd_Mod_asked_5 ⟨by decide, by decide⟩ ?_
    refine r_icmp_ge dd_Mod_asked_7 (fun c_7 => ?_) (fun c_7 => ?_)
    · refine r_iloadn dd_Mod_asked_61 rfl ?_
      exact r_retI dd_Mod_asked_62 (by rw [sumF_0]; omega) rfl
    · exfalso; omega
  | succ n ih =>
    intro w a h0 h1 h2
    have hb := hW.1 w h1 (by omega)
    refine r_iloadn dd_Mod_asked_4 rfl ?_
    refine r_bip dd_Mod_asked_5 ⟨by decide, by decide⟩ ?_
    refine r_icmp_ge dd_Mod_asked_7 (fun c_7 => ?_) (fun c_7 => ?_)
    · exfalso; omega
    · refine r_iloadn dd_Mod_asked_10 rfl ?_
      refine r_aloadn dd_Mod_asked_11 rfl ?_
      refine r_iloadn dd_Mod_asked_12 rfl ?_
      refine r_V1W dd_Mod_asked_13 ml_Mod_42 ok_Mod_isOwned vi_Mod_isOwned vk_219 (by decide) (clS rfl (Nat.le_refl _) (rmOK_self _ _)) rfl (c_Mod_isOwned (by omega) (by omega)) ?_
      refine r_if_eq_b dd_Mod_asked_16 (fun c_16 => ?_) (fun c_16 => ?_)
      · refine r_iconst dd_Mod_asked_52 ⟨by decide, by decide⟩ ?_
        refine r_iadd dd_Mod_asked_53 ⟨by omega, by omega⟩ ?_
        refine r_istoren (L' := [_, _, _, _]) dd_Mod_asked_54 rfl rfl ?_
        refine r_iinc (L' := [_, _, _, _]) dd_Mod_asked_55 rfl ⟨by omega, by omega⟩ rfl ?_
        refine r_goto dd_Mod_asked_58 ?_
        refine r_eqr (by rw [sumF_s]; first | (rw [if_pos (by omega)]; omega) | (rw [if_neg (by omega)]; omega)) (ih (w + 1) _ (by omega) (by omega) ⟨by omega, by omega⟩)
      · refine r_iloadn dd_Mod_asked_19 rfl ?_
        refine r_bip dd_Mod_asked_20 ⟨by decide, by decide⟩ ?_
        refine r_icmp_eq dd_Mod_asked_22 (fun c_22 => ?_) (fun c_22 => ?_)
        · refine r_aloadn dd_Mod_asked_39 rfl ?_
          refine r_getR dd_Mod_asked_40 fl_Mod_7 (kI := 0) rfl fr_Mod_0 vk_219 R0_219_0 ?_
          refine r_sip dd_Mod_asked_43 ⟨by decide, by decide⟩ ?_
          refine r_iloadn dd_Mod_asked_46 rfl ?_
          refine r_iadd dd_Mod_asked_47 ⟨by omega, by omega⟩ ?_
          refine r_iald dd_Mod_asked_48 (q := 12) (by decide) vk_220 (by omega) (by show _ < ((472 : Nat) : Int); omega) ?_
          refine r_goto dd_Mod_asked_49 ?_
          refine r_iadd dd_Mod_asked_53 ⟨by omega, by omega⟩ ?_
          refine r_istoren (L' := [_, _, _, _]) dd_Mod_asked_54 rfl rfl ?_
          refine r_iinc (L' := [_, _, _, _]) dd_Mod_asked_55 rfl ⟨by omega, by omega⟩ rfl ?_
          refine r_goto dd_Mod_asked_58 ?_
          refine r_eqr (by rw [sumF_s]; first | (rw [if_pos (by omega)]; omega) | (rw [if_neg (by omega)]; omega)) (ih (w + 1) _ (by omega) (by omega) ⟨by omega, by omega⟩)
        · refine r_aloadn dd_Mod_asked_25 rfl ?_
          refine r_getR dd_Mod_asked_26 fl_Mod_7 (kI := 0) rfl fr_Mod_0 vk_219 R0_219_0 ?_
          refine r_sip dd_Mod_asked_29 ⟨by decide, by decide⟩ ?_
          refine r_iloadn dd_Mod_asked_32 rfl ?_
          refine r_iadd dd_Mod_asked_33 ⟨by omega, by omega⟩ ?_
          refine r_iald dd_Mod_asked_34 (q := 12) (by decide) vk_220 (by omega) (by show _ < ((472 : Nat) : Int); omega) ?_
          refine r_iloadn dd_Mod_asked_35 rfl ?_
          refine r_icmp_ne dd_Mod_asked_36 (fun c_36 => ?_) (fun c_36 => ?_)
          · refine r_iconst dd_Mod_asked_52 ⟨by decide, by decide⟩ ?_
            refine r_iadd dd_Mod_asked_53 ⟨by omega, by omega⟩ ?_
            refine r_istoren (L' := [_, _, _, _]) dd_Mod_asked_54 rfl rfl ?_
            refine r_iinc (L' := [_, _, _, _]) dd_Mod_asked_55 rfl ⟨by omega, by omega⟩ rfl ?_
            refine r_goto dd_Mod_asked_58 ?_
            refine r_eqr (by rw [sumF_s]; first | (rw [if_pos (by omega)]; omega) | (rw [if_neg (by omega)]; omega)) (ih (w + 1) _ (by omega) (by omega) ⟨by omega, by omega⟩)
          · refine r_aloadn dd_Mod_asked_39 rfl ?_
            refine r_getR dd_Mod_asked_40 fl_Mod_7 (kI := 0) rfl fr_Mod_0 vk_219 R0_219_0 ?_
            refine r_sip dd_Mod_asked_43 ⟨by decide, by decide⟩ ?_
            refine r_iloadn dd_Mod_asked_46 rfl ?_
            refine r_iadd dd_Mod_asked_47 ⟨by omega, by omega⟩ ?_
            refine r_iald dd_Mod_asked_48 (q := 12) (by decide) vk_220 (by omega) (by show _ < ((472 : Nat) : Int); omega) ?_
            refine r_goto dd_Mod_asked_49 ?_
            refine r_iadd dd_Mod_asked_53 ⟨by omega, by omega⟩ ?_
            refine r_istoren (L' := [_, _, _, _]) dd_Mod_asked_54 rfl rfl ?_
            refine r_iinc (L' := [_, _, _, _]) dd_Mod_asked_55 rfl ⟨by omega, by omega⟩ rfl ?_
            refine r_goto dd_Mod_asked_58 ?_
            refine r_eqr (by rw [sumF_s]; first | (rw [if_pos (by omega)]; omega) | (rw [if_neg (by omega)]; omega)) (ih (w + 1) _ (by omega) (by omega) ⟨by omega, by omega⟩)
theorem c_Mod_asked {μ : Int → Int → Int} {K t : Int} (hW : MW K (μ 220)) : MetC mi_Mod_asked [vR 219, vI t] (st μ) (some (vI (askdM (μ 220) t))) (st (μ)) := by
  refine met_of ?_ (Nat.le_of_ble_eq_true rfl) (by decide) trivial (by decide) (Nat.le_of_ble_eq_true rfl)
  show SPW mi_Mod_asked 226 0 [some (vR 219), some (vI t), none, none] [] (st μ) (some (vI (askdM (μ 220) t))) (st (μ))
  refine r_iconst dd_Mod_asked_0 ⟨by decide, by decide⟩ ?_
  refine r_istoren (L' := [_, _, _, _]) dd_Mod_asked_1 rfl rfl ?_
  refine r_iconst dd_Mod_asked_2 ⟨by decide, by decide⟩ ?_
  refine r_istoren (L' := [_, _, _, _]) dd_Mod_asked_3 rfl rfl ?_
  exact r_eqr (Int.zero_add _) (l_Mod_asked hW 64 0 0 (by decide) (by decide) ⟨by decide, by decide⟩)
theorem l_Mod_freeWords {μ : Int → Int → Int} {K : Int} (hW : MW K (μ 220)) : ∀ (n : Nat) (w a : Int), (w + n = 64) → (0 ≤ w) → (0 ≤ a ∧ a ≤ w * 16) → SPW mi_Mod_freeWords 226 4 [some (vR 219), some (vI a), some (vI w)] [] (st (μ)) (some (vI (a + sumF (n) w (fun w => if fre (μ 220) w then μ 220 (128 + w) else 0)))) (st (μ)) := by
  intro n
  induction n with
  | zero =>
    intro w a h0 h1 h2
    refine r_iloadn dd_Mod_freeWords_4 rfl ?_
    refine r_bip dd_Mod_freeWords_5 ⟨by decide, by decide⟩ ?_
    refine r_icmp_ge dd_Mod_freeWords_7 (fun c_7 => ?_) (fun c_7 => ?_)
    · refine r_iloadn dd_Mod_freeWords_41 rfl ?_
      exact r_retI dd_Mod_freeWords_42 (by rw [sumF_0]; omega) rfl
    · exfalso; omega
  | succ n ih =>
    intro w a h0 h1 h2
    have hb := hW.1 w h1 (by omega)
    refine r_iloadn dd_Mod_freeWords_4 rfl ?_
    refine r_bip dd_Mod_freeWords_5 ⟨by decide, by decide⟩ ?_
    refine r_icmp_ge dd_Mod_freeWords_7 (fun c_7 => ?_) (fun c_7 => ?_)
    · exfalso; omega
    · refine r_iloadn dd_Mod_freeWords_10 rfl ?_
      refine r_aloadn dd_Mod_freeWords_11 rfl ?_
      refine r_iloadn dd_Mod_freeWords_12 rfl ?_
      refine r_V1W dd_Mod_freeWords_13 ml_Mod_50 ok_Mod_isFree vi_Mod_isFree vk_219 (by decide) (clS rfl (Nat.le_refl _) (rmOK_self _ _)) rfl (c_Mod_isFree (by omega) (by omega)) ?_
      refine r_if_eq_b dd_Mod_freeWords_16 (fun c_16 => ?_) (fun c_16 => ?_)
      · refine r_iconst dd_Mod_freeWords_32 ⟨by decide, by decide⟩ ?_
        refine r_iadd dd_Mod_freeWords_33 ⟨by omega, by omega⟩ ?_
        refine r_istoren (L' := [_, _, _]) dd_Mod_freeWords_34 rfl rfl ?_
        refine r_iinc (L' := [_, _, _]) dd_Mod_freeWords_35 rfl ⟨by omega, by omega⟩ rfl ?_
        refine r_goto dd_Mod_freeWords_38 ?_
        refine r_eqr (by rw [sumF_s]; first | (rw [if_pos (by omega)]; omega) | (rw [if_neg (by omega)]; omega)) (ih (w + 1) _ (by omega) (by omega) ⟨by omega, by omega⟩)
      · refine r_aloadn dd_Mod_freeWords_19 rfl ?_
        refine r_getR dd_Mod_freeWords_20 fl_Mod_7 (kI := 0) rfl fr_Mod_0 vk_219 R0_219_0 ?_
        refine r_sip dd_Mod_freeWords_23 ⟨by decide, by decide⟩ ?_
        refine r_iloadn dd_Mod_freeWords_26 rfl ?_
        refine r_iadd dd_Mod_freeWords_27 ⟨by omega, by omega⟩ ?_
        refine r_iald dd_Mod_freeWords_28 (q := 12) (by decide) vk_220 (by omega) (by show _ < ((472 : Nat) : Int); omega) ?_
        refine r_goto dd_Mod_freeWords_29 ?_
        refine r_iadd dd_Mod_freeWords_33 ⟨by omega, by omega⟩ ?_
        refine r_istoren (L' := [_, _, _]) dd_Mod_freeWords_34 rfl rfl ?_
        refine r_iinc (L' := [_, _, _]) dd_Mod_freeWords_35 rfl ⟨by omega, by omega⟩ rfl ?_
        refine r_goto dd_Mod_freeWords_38 ?_
        refine r_eqr (by rw [sumF_s]; first | (rw [if_pos (by omega)]; omega) | (rw [if_neg (by omega)]; omega)) (ih (w + 1) _ (by omega) (by omega) ⟨by omega, by omega⟩)
theorem c_Mod_freeWords {μ : Int → Int → Int} {K : Int} (hW : MW K (μ 220)) : MetC mi_Mod_freeWords [vR 219] (st μ) (some (vI (frwM (μ 220)))) (st (μ)) := by
  refine met_of ?_ (Nat.le_of_ble_eq_true rfl) (by decide) trivial (by decide) (Nat.le_of_ble_eq_true rfl)
  show SPW mi_Mod_freeWords 226 0 [some (vR 219), none, none] [] (st μ) (some (vI (frwM (μ 220)))) (st (μ))
  refine r_iconst dd_Mod_freeWords_0 ⟨by decide, by decide⟩ ?_
  refine r_istoren (L' := [_, _, _]) dd_Mod_freeWords_1 rfl rfl ?_
  refine r_iconst dd_Mod_freeWords_2 ⟨by decide, by decide⟩ ?_
  refine r_istoren (L' := [_, _, _]) dd_Mod_freeWords_3 rfl rfl ?_
  exact r_eqr (Int.zero_add _) (l_Mod_freeWords hW 64 0 0 (by decide) (by decide) ⟨by decide, by decide⟩)
theorem c_Mod_isLeak {μ : Int → Int → Int} {K w : Int} (hW : MW K (μ 220)) (h1 : 0 ≤ w) (h2 : w < 64) : MetC mi_Mod_isLeak [vR 219, vI w] (st μ) (some (vI (b2 (lkM (μ 220) w)))) (st (μ)) := by
  refine met_of ?_ (Nat.le_of_ble_eq_true rfl) (by decide) b2_01 (by decide) (Nat.le_of_ble_eq_true rfl)
  show SPW mi_Mod_isLeak 226 0 [some (vR 219), some (vI w)] [] (st μ) (some (vI (b2 (lkM (μ 220) w)))) (st (μ))
  have hb := hW.1 w h1 h2
  have hc := hW.2.2.1
  have hp := hW.2.2.2.1
  refine r_aloadn dd_Mod_isLeak_0 rfl ?_
  refine r_iloadn dd_Mod_isLeak_1 rfl ?_
  refine r_V1W dd_Mod_isLeak_2 ml_Mod_42 ok_Mod_isOwned vi_Mod_isOwned vk_219 (by decide) (clS rfl (Nat.le_refl _) (rmOK_self _ _)) rfl (c_Mod_isOwned (by omega) (by omega)) ?_
  refine r_if_eq_b dd_Mod_isLeak_5 (fun c_5 => ?_) (fun c_5 => ?_)
  · refine r_iconst dd_Mod_isLeak_65 ⟨by decide, by decide⟩ ?_
    exact r_retI dd_Mod_isLeak_66 (by first | rfl | omega | exact (b2_t (by first | assumption | omega)).symm | exact (b2_f (by first | assumption | omega)).symm) rfl
  · refine r_aloadn dd_Mod_isLeak_8 rfl ?_
    refine r_getR dd_Mod_isLeak_9 fl_Mod_7 (kI := 0) rfl fr_Mod_0 vk_219 R0_219_0 ?_
    refine r_sip dd_Mod_isLeak_12 ⟨by decide, by decide⟩ ?_
    refine r_aloadn dd_Mod_isLeak_15 rfl ?_
    refine r_getR dd_Mod_isLeak_16 fl_Mod_7 (kI := 0) rfl fr_Mod_0 vk_219 R0_219_0 ?_
    refine r_sip dd_Mod_isLeak_19 ⟨by decide, by decide⟩ ?_
    refine r_iloadn dd_Mod_isLeak_22 rfl ?_
    refine r_iadd dd_Mod_isLeak_23 ⟨by omega, by omega⟩ ?_
    refine r_iald dd_Mod_isLeak_24 (q := 12) (by decide) vk_220 (by omega) (by show _ < ((472 : Nat) : Int); omega) ?_
    refine r_iadd dd_Mod_isLeak_25 ⟨by omega, by omega⟩ ?_
    refine r_iald dd_Mod_isLeak_26 (q := 12) (by decide) vk_220 (by omega) (by show _ < ((472 : Nat) : Int); omega) ?_
    refine r_iconst dd_Mod_isLeak_27 ⟨by decide, by decide⟩ ?_
    refine r_icmp_eq dd_Mod_isLeak_28 (fun c_28 => ?_) (fun c_28 => ?_)
    · refine r_iconst dd_Mod_isLeak_61 ⟨by decide, by decide⟩ ?_
      refine r_goto dd_Mod_isLeak_62 ?_
      exact r_retI dd_Mod_isLeak_66 (by first | rfl | omega | exact (b2_t (by first | assumption | omega)).symm | exact (b2_f (by first | assumption | omega)).symm) rfl
    · refine r_aloadn dd_Mod_isLeak_31 rfl ?_
      refine r_getR dd_Mod_isLeak_32 fl_Mod_7 (kI := 0) rfl fr_Mod_0 vk_219 R0_219_0 ?_
      refine r_sip dd_Mod_isLeak_35 ⟨by decide, by decide⟩ ?_
      refine r_iald dd_Mod_isLeak_38 (q := 12) (by decide) vk_220 (by omega) (by show _ < ((472 : Nat) : Int); omega) ?_
      refine r_aloadn dd_Mod_isLeak_39 rfl ?_
      refine r_getR dd_Mod_isLeak_40 fl_Mod_7 (kI := 0) rfl fr_Mod_0 vk_219 R0_219_0 ?_
      refine r_sip dd_Mod_isLeak_43 ⟨by decide, by decide⟩ ?_
      refine r_iloadn dd_Mod_isLeak_46 rfl ?_
      refine r_iadd dd_Mod_isLeak_47 ⟨by omega, by omega⟩ ?_
      refine r_iald dd_Mod_isLeak_48 (q := 12) (by decide) vk_220 (by omega) (by show _ < ((472 : Nat) : Int); omega) ?_
      refine r_isub dd_Mod_isLeak_49 ⟨by omega, by omega⟩ ?_
      refine r_aloadn dd_Mod_isLeak_50 rfl ?_
      refine r_getR dd_Mod_isLeak_51 fl_Mod_7 (kI := 0) rfl fr_Mod_0 vk_219 R0_219_0 ?_
      refine r_sip dd_Mod_isLeak_54 ⟨by decide, by decide⟩ ?_
      refine r_iald dd_Mod_isLeak_57 (q := 12) (by decide) vk_220 (by omega) (by show _ < ((472 : Nat) : Int); omega) ?_
      refine r_icmp_lt dd_Mod_isLeak_58 (fun c_58 => ?_) (fun c_58 => ?_)
      · refine r_iconst dd_Mod_isLeak_65 ⟨by decide, by decide⟩ ?_
        exact r_retI dd_Mod_isLeak_66 (by first | rfl | omega | exact (b2_t (by first | assumption | omega)).symm | exact (b2_f (by first | assumption | omega)).symm) rfl
      · refine r_iconst dd_Mod_isLeak_61 ⟨by decide, by decide⟩ ?_
        refine r_goto dd_Mod_isLeak_62 ?_
        exact r_retI dd_Mod_isLeak_66 (by first | rfl | omega | exact (b2_t (by first | assumption | omega)).symm | exact (b2_f (by first | assumption | omega)).symm) rfl
theorem l_Mod_leaks {μ : Int → Int → Int} {K : Int} {t : Int} (hW : MW K (μ 220)) : ∀ (n : Nat) (w a : Int), (w + n = 64) → (0 ≤ w) → (0 ≤ a ∧ a ≤ w * 1) → SPW mi_Mod_leaks 226 4 [some (vR 219), some (vI t), some (vI a), some (vI w)] [] (st (μ)) (some (vI (a + sumF (n) w (fun w => if lkM (μ 220) w ∧ (t = 6 ∨ μ 220 (256 + w) = t) then 1 else 0)))) (st (μ)) := by
  intro n
  induction n with
  | zero =>
    intro w a h0 h1 h2
    refine r_iloadn dd_Mod_leaks_4 rfl ?_
    refine r_bip dd_Mod_leaks_5 ⟨by decide, by decide⟩ ?_
    refine r_icmp_ge dd_Mod_leaks_7 (fun c_7 => ?_) (fun c_7 => ?_)
    · refine r_iloadn dd_Mod_leaks_52 rfl ?_
      exact r_retI dd_Mod_leaks_53 (by rw [sumF_0]; omega) rfl
    · exfalso; omega
  | succ n ih =>
    intro w a h0 h1 h2
    have hb := hW.1 w h1 (by omega)
    refine r_iloadn dd_Mod_leaks_4 rfl ?_
    refine r_bip dd_Mod_leaks_5 ⟨by decide, by decide⟩ ?_
    refine r_icmp_ge dd_Mod_leaks_7 (fun c_7 => ?_) (fun c_7 => ?_)
    · exfalso; omega
    · refine r_iloadn dd_Mod_leaks_10 rfl ?_
      refine r_aloadn dd_Mod_leaks_11 rfl ?_
      refine r_iloadn dd_Mod_leaks_12 rfl ?_
      refine r_V1W dd_Mod_leaks_13 ml_Mod_68 ok_Mod_isLeak vi_Mod_isLeak vk_219 (by decide) (clS rfl (Nat.le_refl _) (rmOK_self _ _)) rfl (c_Mod_isLeak hW (by omega) (by omega)) ?_
      refine r_if_eq_b dd_Mod_leaks_16 (fun c_16 => ?_) (fun c_16 => ?_)
      · refine r_iconst dd_Mod_leaks_43 ⟨by decide, by decide⟩ ?_
        refine r_iadd dd_Mod_leaks_44 ⟨by omega, by omega⟩ ?_
        refine r_istoren (L' := [_, _, _, _]) dd_Mod_leaks_45 rfl rfl ?_
        refine r_iinc (L' := [_, _, _, _]) dd_Mod_leaks_46 rfl ⟨by omega, by omega⟩ rfl ?_
        refine r_goto dd_Mod_leaks_49 ?_
        refine r_eqr (by rw [sumF_s]; first | (rw [if_pos (by omega)]; omega) | (rw [if_neg (by omega)]; omega)) (ih (w + 1) _ (by omega) (by omega) ⟨by omega, by omega⟩)
      · refine r_iloadn dd_Mod_leaks_19 rfl ?_
        refine r_bip dd_Mod_leaks_20 ⟨by decide, by decide⟩ ?_
        refine r_icmp_eq dd_Mod_leaks_22 (fun c_22 => ?_) (fun c_22 => ?_)
        · refine r_iconst dd_Mod_leaks_39 ⟨by decide, by decide⟩ ?_
          refine r_goto dd_Mod_leaks_40 ?_
          refine r_iadd dd_Mod_leaks_44 ⟨by omega, by omega⟩ ?_
          refine r_istoren (L' := [_, _, _, _]) dd_Mod_leaks_45 rfl rfl ?_
          refine r_iinc (L' := [_, _, _, _]) dd_Mod_leaks_46 rfl ⟨by omega, by omega⟩ rfl ?_
          refine r_goto dd_Mod_leaks_49 ?_
          refine r_eqr (by rw [sumF_s]; first | (rw [if_pos (by omega)]; omega) | (rw [if_neg (by omega)]; omega)) (ih (w + 1) _ (by omega) (by omega) ⟨by omega, by omega⟩)
        · refine r_aloadn dd_Mod_leaks_25 rfl ?_
          refine r_getR dd_Mod_leaks_26 fl_Mod_7 (kI := 0) rfl fr_Mod_0 vk_219 R0_219_0 ?_
          refine r_sip dd_Mod_leaks_29 ⟨by decide, by decide⟩ ?_
          refine r_iloadn dd_Mod_leaks_32 rfl ?_
          refine r_iadd dd_Mod_leaks_33 ⟨by omega, by omega⟩ ?_
          refine r_iald dd_Mod_leaks_34 (q := 12) (by decide) vk_220 (by omega) (by show _ < ((472 : Nat) : Int); omega) ?_
          refine r_iloadn dd_Mod_leaks_35 rfl ?_
          refine r_icmp_ne dd_Mod_leaks_36 (fun c_36 => ?_) (fun c_36 => ?_)
          · refine r_iconst dd_Mod_leaks_43 ⟨by decide, by decide⟩ ?_
            refine r_iadd dd_Mod_leaks_44 ⟨by omega, by omega⟩ ?_
            refine r_istoren (L' := [_, _, _, _]) dd_Mod_leaks_45 rfl rfl ?_
            refine r_iinc (L' := [_, _, _, _]) dd_Mod_leaks_46 rfl ⟨by omega, by omega⟩ rfl ?_
            refine r_goto dd_Mod_leaks_49 ?_
            refine r_eqr (by rw [sumF_s]; first | (rw [if_pos (by omega)]; omega) | (rw [if_neg (by omega)]; omega)) (ih (w + 1) _ (by omega) (by omega) ⟨by omega, by omega⟩)
          · refine r_iconst dd_Mod_leaks_39 ⟨by decide, by decide⟩ ?_
            refine r_goto dd_Mod_leaks_40 ?_
            refine r_iadd dd_Mod_leaks_44 ⟨by omega, by omega⟩ ?_
            refine r_istoren (L' := [_, _, _, _]) dd_Mod_leaks_45 rfl rfl ?_
            refine r_iinc (L' := [_, _, _, _]) dd_Mod_leaks_46 rfl ⟨by omega, by omega⟩ rfl ?_
            refine r_goto dd_Mod_leaks_49 ?_
            refine r_eqr (by rw [sumF_s]; first | (rw [if_pos (by omega)]; omega) | (rw [if_neg (by omega)]; omega)) (ih (w + 1) _ (by omega) (by omega) ⟨by omega, by omega⟩)
theorem c_Mod_leaks {μ : Int → Int → Int} {K t : Int} (hW : MW K (μ 220)) : MetC mi_Mod_leaks [vR 219, vI t] (st μ) (some (vI (lksM (μ 220) t))) (st (μ)) := by
  refine met_of ?_ (Nat.le_of_ble_eq_true rfl) (by decide) trivial (by decide) (Nat.le_of_ble_eq_true rfl)
  show SPW mi_Mod_leaks 226 0 [some (vR 219), some (vI t), none, none] [] (st μ) (some (vI (lksM (μ 220) t))) (st (μ))
  refine r_iconst dd_Mod_leaks_0 ⟨by decide, by decide⟩ ?_
  refine r_istoren (L' := [_, _, _, _]) dd_Mod_leaks_1 rfl rfl ?_
  refine r_iconst dd_Mod_leaks_2 ⟨by decide, by decide⟩ ?_
  refine r_istoren (L' := [_, _, _, _]) dd_Mod_leaks_3 rfl rfl ?_
  exact r_eqr (Int.zero_add _) (l_Mod_leaks hW 64 0 0 (by decide) (by decide) ⟨by decide, by decide⟩)
end
