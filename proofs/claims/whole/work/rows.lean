section
-- ===== PART A: goes FIRST, ahead of the names: the tables' words, and 'selects' of the private methods out of them =====
/-- a private method of a class that the tables say can be made, by its rows of tables_1 -/
def lw_okq (q : MethodName × Nat) : Prop := (q.1.cls ≠ "java/lang/invoke/MethodHandle" ∧ q.1.cls ≠ "java/lang/invoke/VarHandle") ∧ Cond.instantiable q.1.cls q.2 ∈ tables_1 ∧ Cond.privateMethod q.1 ∈ tables_1 ∧ Cond.instanceMethod q.1 ∈ tables_1
theorem lw_p0 : lw_okq (⟨"GuardedPool$State", "taskOf", "(I)LGuardedPool$Task;"⟩, 9) := ⟨⟨by decide +kernel, by decide +kernel⟩, List.mem_of_getElem? (i := 20) (by decide +kernel), List.mem_of_getElem? (i := 230) (by decide +kernel), List.mem_of_getElem? (i := 231) (by decide +kernel)⟩
theorem lw_p1 : lw_okq (⟨"GuardedPool$State", "wordsOf", "(I)I"⟩, 9) := ⟨⟨by decide +kernel, by decide +kernel⟩, List.mem_of_getElem? (i := 20) (by decide +kernel), List.mem_of_getElem? (i := 240) (by decide +kernel), List.mem_of_getElem? (i := 241) (by decide +kernel)⟩
theorem lw_p2 : lw_okq (⟨"GuardedPool$State", "roomFor", "(I)LGuardedPool$Block;"⟩, 9) := ⟨⟨by decide +kernel, by decide +kernel⟩, List.mem_of_getElem? (i := 20) (by decide +kernel), List.mem_of_getElem? (i := 249) (by decide +kernel), List.mem_of_getElem? (i := 250) (by decide +kernel)⟩
theorem lw_p3 : lw_okq (⟨"GuardedPool$State", "lowestFree", "(I)LGuardedPool$Block;"⟩, 9) := ⟨⟨by decide +kernel, by decide +kernel⟩, List.mem_of_getElem? (i := 20) (by decide +kernel), List.mem_of_getElem? (i := 253) (by decide +kernel), List.mem_of_getElem? (i := 254) (by decide +kernel)⟩
theorem lw_p4 : lw_okq (⟨"GuardedPool$State", "cutOut", "(I)LGuardedPool$Block;"⟩, 9) := ⟨⟨by decide +kernel, by decide +kernel⟩, List.mem_of_getElem? (i := 20) (by decide +kernel), List.mem_of_getElem? (i := 261) (by decide +kernel), List.mem_of_getElem? (i := 262) (by decide +kernel)⟩
theorem lw_p5 : lw_okq (⟨"GuardedPool$State", "halve", "(LGuardedPool$Block;)V"⟩, 9) := ⟨⟨by decide +kernel, by decide +kernel⟩, List.mem_of_getElem? (i := 20) (by decide +kernel), List.mem_of_getElem? (i := 265) (by decide +kernel), List.mem_of_getElem? (i := 266) (by decide +kernel)⟩
theorem lw_p6 : lw_okq (⟨"GuardedPool$State", "placeAt", "(I)LGuardedPool$Block;"⟩, 9) := ⟨⟨by decide +kernel, by decide +kernel⟩, List.mem_of_getElem? (i := 20) (by decide +kernel), List.mem_of_getElem? (i := 269) (by decide +kernel), List.mem_of_getElem? (i := 270) (by decide +kernel)⟩
theorem lw_p7 : lw_okq (⟨"GuardedPool", "countRefusal", "(I)V"⟩, 10) := ⟨⟨by decide +kernel, by decide +kernel⟩, List.mem_of_getElem? (i := 12) (by decide +kernel), List.mem_of_getElem? (i := 274) (by decide +kernel), List.mem_of_getElem? (i := 275) (by decide +kernel)⟩
theorem lw_p8 : lw_okq (⟨"GuardedPool", "recorded", "(I)I"⟩, 10) := ⟨⟨by decide +kernel, by decide +kernel⟩, List.mem_of_getElem? (i := 12) (by decide +kernel), List.mem_of_getElem? (i := 278) (by decide +kernel), List.mem_of_getElem? (i := 279) (by decide +kernel)⟩
theorem lw_p9 : lw_okq (⟨"GuardedPool$State", "blockOf", "(I)LGuardedPool$Block;"⟩, 9) := ⟨⟨by decide +kernel, by decide +kernel⟩, List.mem_of_getElem? (i := 20) (by decide +kernel), List.mem_of_getElem? (i := 298) (by decide +kernel), List.mem_of_getElem? (i := 299) (by decide +kernel)⟩
theorem lw_p10 : lw_okq (⟨"GuardedPool$State", "free", "(LGuardedPool$Block;)I"⟩, 9) := ⟨⟨by decide +kernel, by decide +kernel⟩, List.mem_of_getElem? (i := 20) (by decide +kernel), List.mem_of_getElem? (i := 306) (by decide +kernel), List.mem_of_getElem? (i := 307) (by decide +kernel)⟩
theorem lw_p11 : lw_okq (⟨"GuardedPool$State", "brokenGuards", "(LGuardedPool$Block;)I"⟩, 9) := ⟨⟨by decide +kernel, by decide +kernel⟩, List.mem_of_getElem? (i := 20) (by decide +kernel), List.mem_of_getElem? (i := 310) (by decide +kernel), List.mem_of_getElem? (i := 311) (by decide +kernel)⟩
theorem lw_p12 : lw_okq (⟨"GuardedPool$State", "valueAt", "(I)I"⟩, 9) := ⟨⟨by decide +kernel, by decide +kernel⟩, List.mem_of_getElem? (i := 20) (by decide +kernel), List.mem_of_getElem? (i := 314) (by decide +kernel), List.mem_of_getElem? (i := 315) (by decide +kernel)⟩
theorem lw_p13 : lw_okq (⟨"GuardedPool$State", "setValue", "(II)V"⟩, 9) := ⟨⟨by decide +kernel, by decide +kernel⟩, List.mem_of_getElem? (i := 20) (by decide +kernel), List.mem_of_getElem? (i := 322) (by decide +kernel), List.mem_of_getElem? (i := 323) (by decide +kernel)⟩
theorem lw_p14 : lw_okq (⟨"GuardedPool$State", "joinTwins", "(LGuardedPool$Block;)V"⟩, 9) := ⟨⟨by decide +kernel, by decide +kernel⟩, List.mem_of_getElem? (i := 20) (by decide +kernel), List.mem_of_getElem? (i := 326) (by decide +kernel), List.mem_of_getElem? (i := 327) (by decide +kernel)⟩
theorem lw_p15 : lw_okq (⟨"GuardedPool$State", "blockAt", "(I)LGuardedPool$Block;"⟩, 9) := ⟨⟨by decide +kernel, by decide +kernel⟩, List.mem_of_getElem? (i := 20) (by decide +kernel), List.mem_of_getElem? (i := 338) (by decide +kernel), List.mem_of_getElem? (i := 339) (by decide +kernel)⟩
def lw_privs_1 : List (MethodName × Nat) := [(⟨"GuardedPool$State", "taskOf", "(I)LGuardedPool$Task;"⟩, 9), (⟨"GuardedPool$State", "wordsOf", "(I)I"⟩, 9), (⟨"GuardedPool$State", "roomFor", "(I)LGuardedPool$Block;"⟩, 9), (⟨"GuardedPool$State", "lowestFree", "(I)LGuardedPool$Block;"⟩, 9), (⟨"GuardedPool$State", "cutOut", "(I)LGuardedPool$Block;"⟩, 9), (⟨"GuardedPool$State", "halve", "(LGuardedPool$Block;)V"⟩, 9), (⟨"GuardedPool$State", "placeAt", "(I)LGuardedPool$Block;"⟩, 9), (⟨"GuardedPool", "countRefusal", "(I)V"⟩, 10), (⟨"GuardedPool", "recorded", "(I)I"⟩, 10), (⟨"GuardedPool$State", "blockOf", "(I)LGuardedPool$Block;"⟩, 9), (⟨"GuardedPool$State", "free", "(LGuardedPool$Block;)I"⟩, 9), (⟨"GuardedPool$State", "brokenGuards", "(LGuardedPool$Block;)I"⟩, 9), (⟨"GuardedPool$State", "valueAt", "(I)I"⟩, 9), (⟨"GuardedPool$State", "setValue", "(II)V"⟩, 9), (⟨"GuardedPool$State", "joinTwins", "(LGuardedPool$Block;)V"⟩, 9), (⟨"GuardedPool$State", "blockAt", "(I)LGuardedPool$Block;"⟩, 9)]
theorem lw_r1 : ∀ q ∈ lw_privs_1, lw_okq q := List.forall_mem_cons.mpr ⟨lw_p0, List.forall_mem_cons.mpr ⟨lw_p1, List.forall_mem_cons.mpr ⟨lw_p2, List.forall_mem_cons.mpr ⟨lw_p3, List.forall_mem_cons.mpr ⟨lw_p4, List.forall_mem_cons.mpr ⟨lw_p5, List.forall_mem_cons.mpr ⟨lw_p6, List.forall_mem_cons.mpr ⟨lw_p7, List.forall_mem_cons.mpr ⟨lw_p8, List.forall_mem_cons.mpr ⟨lw_p9, List.forall_mem_cons.mpr ⟨lw_p10, List.forall_mem_cons.mpr ⟨lw_p11, List.forall_mem_cons.mpr ⟨lw_p12, List.forall_mem_cons.mpr ⟨lw_p13, List.forall_mem_cons.mpr ⟨lw_p14, List.forall_mem_cons.mpr ⟨lw_p15, fun _ h => absurd h List.not_mem_nil⟩⟩⟩⟩⟩⟩⟩⟩⟩⟩⟩⟩⟩⟩⟩⟩
theorem lw_p16 : lw_okq (⟨"GuardedPool$State", "ageOf", "(LGuardedPool$Block;)I"⟩, 9) := ⟨⟨by decide +kernel, by decide +kernel⟩, List.mem_of_getElem? (i := 20) (by decide +kernel), List.mem_of_getElem? (i := 368) (by decide +kernel), List.mem_of_getElem? (i := 369) (by decide +kernel)⟩
theorem lw_p17 : lw_okq (⟨"GuardedPool$State", "blocksOf", "(I)I"⟩, 9) := ⟨⟨by decide +kernel, by decide +kernel⟩, List.mem_of_getElem? (i := 20) (by decide +kernel), List.mem_of_getElem? (i := 380) (by decide +kernel), List.mem_of_getElem? (i := 381) (by decide +kernel)⟩
theorem lw_p18 : lw_okq (⟨"GuardedPool$State", "leaks", "()I"⟩, 9) := ⟨⟨by decide +kernel, by decide +kernel⟩, List.mem_of_getElem? (i := 20) (by decide +kernel), List.mem_of_getElem? (i := 408) (by decide +kernel), List.mem_of_getElem? (i := 409) (by decide +kernel)⟩
theorem lw_p19 : lw_okq (⟨"GuardedPool$State", "leaksOf", "(I)I"⟩, 9) := ⟨⟨by decide +kernel, by decide +kernel⟩, List.mem_of_getElem? (i := 20) (by decide +kernel), List.mem_of_getElem? (i := 412) (by decide +kernel), List.mem_of_getElem? (i := 413) (by decide +kernel)⟩
theorem lw_p20 : lw_okq (⟨"GuardedPool$State", "isLeak", "(LGuardedPool$Block;)Z"⟩, 9) := ⟨⟨by decide +kernel, by decide +kernel⟩, List.mem_of_getElem? (i := 20) (by decide +kernel), List.mem_of_getElem? (i := 416) (by decide +kernel), List.mem_of_getElem? (i := 417) (by decide +kernel)⟩
theorem lw_p21 : lw_okq (⟨"GuardedPool$Text", "readCommand", "(LGuardedPool$Command;)V"⟩, 6) := ⟨⟨by decide +kernel, by decide +kernel⟩, List.mem_of_getElem? (i := 126) (by decide +kernel), List.mem_of_getElem? (i := 452) (by decide +kernel), List.mem_of_getElem? (i := 453) (by decide +kernel)⟩
theorem lw_p22 : lw_okq (⟨"GuardedPool$Text", "signHere", "()C"⟩, 6) := ⟨⟨by decide +kernel, by decide +kernel⟩, List.mem_of_getElem? (i := 126) (by decide +kernel), List.mem_of_getElem? (i := 456) (by decide +kernel), List.mem_of_getElem? (i := 457) (by decide +kernel)⟩
theorem lw_p23 : lw_okq (⟨"GuardedPool$Text", "readTwoNumbers", "(LGuardedPool$Command;II)V"⟩, 6) := ⟨⟨by decide +kernel, by decide +kernel⟩, List.mem_of_getElem? (i := 126) (by decide +kernel), List.mem_of_getElem? (i := 460) (by decide +kernel), List.mem_of_getElem? (i := 461) (by decide +kernel)⟩
theorem lw_p24 : lw_okq (⟨"GuardedPool$Text", "readNumber", "(II)I"⟩, 6) := ⟨⟨by decide +kernel, by decide +kernel⟩, List.mem_of_getElem? (i := 126) (by decide +kernel), List.mem_of_getElem? (i := 464) (by decide +kernel), List.mem_of_getElem? (i := 465) (by decide +kernel)⟩
theorem lw_p25 : lw_okq (⟨"GuardedPool$Text", "digitHere", "()I"⟩, 6) := ⟨⟨by decide +kernel, by decide +kernel⟩, List.mem_of_getElem? (i := 126) (by decide +kernel), List.mem_of_getElem? (i := 468) (by decide +kernel), List.mem_of_getElem? (i := 469) (by decide +kernel)⟩
theorem lw_p26 : lw_okq (⟨"GuardedPool$Text", "readSign", "(C)V"⟩, 6) := ⟨⟨by decide +kernel, by decide +kernel⟩, List.mem_of_getElem? (i := 126) (by decide +kernel), List.mem_of_getElem? (i := 472) (by decide +kernel), List.mem_of_getElem? (i := 473) (by decide +kernel)⟩
theorem lw_p27 : lw_okq (⟨"GuardedPool", "answerTo", "(LGuardedPool$Command;)I"⟩, 10) := ⟨⟨by decide +kernel, by decide +kernel⟩, List.mem_of_getElem? (i := 12) (by decide +kernel), List.mem_of_getElem? (i := 484) (by decide +kernel), List.mem_of_getElem? (i := 485) (by decide +kernel)⟩
theorem lw_p28 : lw_okq (⟨"GuardedPool", "noteStop", "(II)V"⟩, 10) := ⟨⟨by decide +kernel, by decide +kernel⟩, List.mem_of_getElem? (i := 12) (by decide +kernel), List.mem_of_getElem? (i := 491) (by decide +kernel), List.mem_of_getElem? (i := 492) (by decide +kernel)⟩
theorem lw_p29 : lw_okq (⟨"GuardedPool$State", "askedBy", "(I)I"⟩, 9) := ⟨⟨by decide +kernel, by decide +kernel⟩, List.mem_of_getElem? (i := 20) (by decide +kernel), List.mem_of_getElem? (i := 543) (by decide +kernel), List.mem_of_getElem? (i := 544) (by decide +kernel)⟩
theorem lw_p30 : lw_okq (⟨"GuardedPool$State", "leaksAheadOf", "(LGuardedPool$Block;)I"⟩, 9) := ⟨⟨by decide +kernel, by decide +kernel⟩, List.mem_of_getElem? (i := 20) (by decide +kernel), List.mem_of_getElem? (i := 567) (by decide +kernel), List.mem_of_getElem? (i := 568) (by decide +kernel)⟩
theorem lw_p31 : lw_okq (⟨"GuardedPool$State", "blocksOfSize", "(IZ)I"⟩, 9) := ⟨⟨by decide +kernel, by decide +kernel⟩, List.mem_of_getElem? (i := 20) (by decide +kernel), List.mem_of_getElem? (i := 583) (by decide +kernel), List.mem_of_getElem? (i := 584) (by decide +kernel)⟩
def lw_privs_2 : List (MethodName × Nat) := [(⟨"GuardedPool$State", "ageOf", "(LGuardedPool$Block;)I"⟩, 9), (⟨"GuardedPool$State", "blocksOf", "(I)I"⟩, 9), (⟨"GuardedPool$State", "leaks", "()I"⟩, 9), (⟨"GuardedPool$State", "leaksOf", "(I)I"⟩, 9), (⟨"GuardedPool$State", "isLeak", "(LGuardedPool$Block;)Z"⟩, 9), (⟨"GuardedPool$Text", "readCommand", "(LGuardedPool$Command;)V"⟩, 6), (⟨"GuardedPool$Text", "signHere", "()C"⟩, 6), (⟨"GuardedPool$Text", "readTwoNumbers", "(LGuardedPool$Command;II)V"⟩, 6), (⟨"GuardedPool$Text", "readNumber", "(II)I"⟩, 6), (⟨"GuardedPool$Text", "digitHere", "()I"⟩, 6), (⟨"GuardedPool$Text", "readSign", "(C)V"⟩, 6), (⟨"GuardedPool", "answerTo", "(LGuardedPool$Command;)I"⟩, 10), (⟨"GuardedPool", "noteStop", "(II)V"⟩, 10), (⟨"GuardedPool$State", "askedBy", "(I)I"⟩, 9), (⟨"GuardedPool$State", "leaksAheadOf", "(LGuardedPool$Block;)I"⟩, 9), (⟨"GuardedPool$State", "blocksOfSize", "(IZ)I"⟩, 9)]
theorem lw_r2 : ∀ q ∈ lw_privs_2, lw_okq q := List.forall_mem_cons.mpr ⟨lw_p16, List.forall_mem_cons.mpr ⟨lw_p17, List.forall_mem_cons.mpr ⟨lw_p18, List.forall_mem_cons.mpr ⟨lw_p19, List.forall_mem_cons.mpr ⟨lw_p20, List.forall_mem_cons.mpr ⟨lw_p21, List.forall_mem_cons.mpr ⟨lw_p22, List.forall_mem_cons.mpr ⟨lw_p23, List.forall_mem_cons.mpr ⟨lw_p24, List.forall_mem_cons.mpr ⟨lw_p25, List.forall_mem_cons.mpr ⟨lw_p26, List.forall_mem_cons.mpr ⟨lw_p27, List.forall_mem_cons.mpr ⟨lw_p28, List.forall_mem_cons.mpr ⟨lw_p29, List.forall_mem_cons.mpr ⟨lw_p30, List.forall_mem_cons.mpr ⟨lw_p31, fun _ h => absurd h List.not_mem_nil⟩⟩⟩⟩⟩⟩⟩⟩⟩⟩⟩⟩⟩⟩⟩⟩
theorem lw_p32 : lw_okq (⟨"GuardedPool$State", "ownedWords", "()I"⟩, 9) := ⟨⟨by decide +kernel, by decide +kernel⟩, List.mem_of_getElem? (i := 20) (by decide +kernel), List.mem_of_getElem? (i := 604) (by decide +kernel), List.mem_of_getElem? (i := 605) (by decide +kernel)⟩
theorem lw_p33 : lw_okq (⟨"GuardedPool$State", "askedWords", "()I"⟩, 9) := ⟨⟨by decide +kernel, by decide +kernel⟩, List.mem_of_getElem? (i := 20) (by decide +kernel), List.mem_of_getElem? (i := 608) (by decide +kernel), List.mem_of_getElem? (i := 609) (by decide +kernel)⟩
theorem lw_p34 : lw_okq (⟨"GuardedPoolModel", "askFault", "(II)I"⟩, 17) := ⟨⟨by decide +kernel, by decide +kernel⟩, List.mem_of_getElem? (i := 612) (by decide +kernel), List.mem_of_getElem? (i := 674) (by decide +kernel), List.mem_of_getElem? (i := 675) (by decide +kernel)⟩
theorem lw_p35 : lw_okq (⟨"GuardedPoolModel", "why", "(II)I"⟩, 17) := ⟨⟨by decide +kernel, by decide +kernel⟩, List.mem_of_getElem? (i := 612) (by decide +kernel), List.mem_of_getElem? (i := 684) (by decide +kernel), List.mem_of_getElem? (i := 685) (by decide +kernel)⟩
theorem lw_p36 : lw_okq (⟨"GuardedPoolModel", "wordsOf", "(I)I"⟩, 17) := ⟨⟨by decide +kernel, by decide +kernel⟩, List.mem_of_getElem? (i := 612) (by decide +kernel), List.mem_of_getElem? (i := 691) (by decide +kernel), List.mem_of_getElem? (i := 692) (by decide +kernel)⟩
theorem lw_p37 : lw_okq (⟨"GuardedPoolModel", "isOwned", "(I)Z"⟩, 17) := ⟨⟨by decide +kernel, by decide +kernel⟩, List.mem_of_getElem? (i := 612) (by decide +kernel), List.mem_of_getElem? (i := 695) (by decide +kernel), List.mem_of_getElem? (i := 696) (by decide +kernel)⟩
theorem lw_p38 : lw_okq (⟨"GuardedPoolModel", "lowestFree", "(I)I"⟩, 17) := ⟨⟨by decide +kernel, by decide +kernel⟩, List.mem_of_getElem? (i := 612) (by decide +kernel), List.mem_of_getElem? (i := 699) (by decide +kernel), List.mem_of_getElem? (i := 700) (by decide +kernel)⟩
theorem lw_p39 : lw_okq (⟨"GuardedPoolModel", "isFree", "(I)Z"⟩, 17) := ⟨⟨by decide +kernel, by decide +kernel⟩, List.mem_of_getElem? (i := 612) (by decide +kernel), List.mem_of_getElem? (i := 703) (by decide +kernel), List.mem_of_getElem? (i := 704) (by decide +kernel)⟩
theorem lw_p40 : lw_okq (⟨"GuardedPoolModel", "know", "()V"⟩, 17) := ⟨⟨by decide +kernel, by decide +kernel⟩, List.mem_of_getElem? (i := 612) (by decide +kernel), List.mem_of_getElem? (i := 707) (by decide +kernel), List.mem_of_getElem? (i := 708) (by decide +kernel)⟩
theorem lw_p41 : lw_okq (⟨"GuardedPoolModel", "asks", "(II)I"⟩, 17) := ⟨⟨by decide +kernel, by decide +kernel⟩, List.mem_of_getElem? (i := 612) (by decide +kernel), List.mem_of_getElem? (i := 711) (by decide +kernel), List.mem_of_getElem? (i := 712) (by decide +kernel)⟩
theorem lw_p42 : lw_okq (⟨"GuardedPoolModel", "taken", "(I)I"⟩, 17) := ⟨⟨by decide +kernel, by decide +kernel⟩, List.mem_of_getElem? (i := 612) (by decide +kernel), List.mem_of_getElem? (i := 715) (by decide +kernel), List.mem_of_getElem? (i := 716) (by decide +kernel)⟩
theorem lw_p43 : lw_okq (⟨"GuardedPoolModel", "backFault", "(II)I"⟩, 17) := ⟨⟨by decide +kernel, by decide +kernel⟩, List.mem_of_getElem? (i := 612) (by decide +kernel), List.mem_of_getElem? (i := 723) (by decide +kernel), List.mem_of_getElem? (i := 724) (by decide +kernel)⟩
theorem lw_p44 : lw_okq (⟨"GuardedPoolModel", "beginOf", "(I)I"⟩, 17) := ⟨⟨by decide +kernel, by decide +kernel⟩, List.mem_of_getElem? (i := 612) (by decide +kernel), List.mem_of_getElem? (i := 727) (by decide +kernel), List.mem_of_getElem? (i := 728) (by decide +kernel)⟩
theorem lw_p45 : lw_okq (⟨"GuardedPoolModel", "frees", "(I)I"⟩, 17) := ⟨⟨by decide +kernel, by decide +kernel⟩, List.mem_of_getElem? (i := 612) (by decide +kernel), List.mem_of_getElem? (i := 731) (by decide +kernel), List.mem_of_getElem? (i := 732) (by decide +kernel)⟩
theorem lw_p46 : lw_okq (⟨"GuardedPoolModel", "broken", "(I)I"⟩, 17) := ⟨⟨by decide +kernel, by decide +kernel⟩, List.mem_of_getElem? (i := 612) (by decide +kernel), List.mem_of_getElem? (i := 735) (by decide +kernel), List.mem_of_getElem? (i := 736) (by decide +kernel)⟩
theorem lw_p47 : lw_okq (⟨"GuardedPoolModel", "beginAt", "(I)I"⟩, 17) := ⟨⟨by decide +kernel, by decide +kernel⟩, List.mem_of_getElem? (i := 612) (by decide +kernel), List.mem_of_getElem? (i := 743) (by decide +kernel), List.mem_of_getElem? (i := 744) (by decide +kernel)⟩
def lw_privs_3 : List (MethodName × Nat) := [(⟨"GuardedPool$State", "ownedWords", "()I"⟩, 9), (⟨"GuardedPool$State", "askedWords", "()I"⟩, 9), (⟨"GuardedPoolModel", "askFault", "(II)I"⟩, 17), (⟨"GuardedPoolModel", "why", "(II)I"⟩, 17), (⟨"GuardedPoolModel", "wordsOf", "(I)I"⟩, 17), (⟨"GuardedPoolModel", "isOwned", "(I)Z"⟩, 17), (⟨"GuardedPoolModel", "lowestFree", "(I)I"⟩, 17), (⟨"GuardedPoolModel", "isFree", "(I)Z"⟩, 17), (⟨"GuardedPoolModel", "know", "()V"⟩, 17), (⟨"GuardedPoolModel", "asks", "(II)I"⟩, 17), (⟨"GuardedPoolModel", "taken", "(I)I"⟩, 17), (⟨"GuardedPoolModel", "backFault", "(II)I"⟩, 17), (⟨"GuardedPoolModel", "beginOf", "(I)I"⟩, 17), (⟨"GuardedPoolModel", "frees", "(I)I"⟩, 17), (⟨"GuardedPoolModel", "broken", "(I)I"⟩, 17), (⟨"GuardedPoolModel", "beginAt", "(I)I"⟩, 17)]
theorem lw_r3 : ∀ q ∈ lw_privs_3, lw_okq q := List.forall_mem_cons.mpr ⟨lw_p32, List.forall_mem_cons.mpr ⟨lw_p33, List.forall_mem_cons.mpr ⟨lw_p34, List.forall_mem_cons.mpr ⟨lw_p35, List.forall_mem_cons.mpr ⟨lw_p36, List.forall_mem_cons.mpr ⟨lw_p37, List.forall_mem_cons.mpr ⟨lw_p38, List.forall_mem_cons.mpr ⟨lw_p39, List.forall_mem_cons.mpr ⟨lw_p40, List.forall_mem_cons.mpr ⟨lw_p41, List.forall_mem_cons.mpr ⟨lw_p42, List.forall_mem_cons.mpr ⟨lw_p43, List.forall_mem_cons.mpr ⟨lw_p44, List.forall_mem_cons.mpr ⟨lw_p45, List.forall_mem_cons.mpr ⟨lw_p46, List.forall_mem_cons.mpr ⟨lw_p47, fun _ h => absurd h List.not_mem_nil⟩⟩⟩⟩⟩⟩⟩⟩⟩⟩⟩⟩⟩⟩⟩⟩
theorem lw_p48 : lw_okq (⟨"GuardedPoolModel", "isGuard", "(I)Z"⟩, 17) := ⟨⟨by decide +kernel, by decide +kernel⟩, List.mem_of_getElem? (i := 612) (by decide +kernel), List.mem_of_getElem? (i := 747) (by decide +kernel), List.mem_of_getElem? (i := 748) (by decide +kernel)⟩
theorem lw_p49 : lw_okq (⟨"GuardedPoolModel", "puts", "(II)I"⟩, 17) := ⟨⟨by decide +kernel, by decide +kernel⟩, List.mem_of_getElem? (i := 612) (by decide +kernel), List.mem_of_getElem? (i := 755) (by decide +kernel), List.mem_of_getElem? (i := 756) (by decide +kernel)⟩
theorem lw_p50 : lw_okq (⟨"GuardedPoolModel", "blocksOf", "(I)I"⟩, 17) := ⟨⟨by decide +kernel, by decide +kernel⟩, List.mem_of_getElem? (i := 612) (by decide +kernel), List.mem_of_getElem? (i := 763) (by decide +kernel), List.mem_of_getElem? (i := 764) (by decide +kernel)⟩
theorem lw_p51 : lw_okq (⟨"GuardedPoolModel", "passFault", "(I)I"⟩, 17) := ⟨⟨by decide +kernel, by decide +kernel⟩, List.mem_of_getElem? (i := 612) (by decide +kernel), List.mem_of_getElem? (i := 779) (by decide +kernel), List.mem_of_getElem? (i := 780) (by decide +kernel)⟩
theorem lw_p52 : lw_okq (⟨"GuardedPoolModel", "passes", "(I)I"⟩, 17) := ⟨⟨by decide +kernel, by decide +kernel⟩, List.mem_of_getElem? (i := 612) (by decide +kernel), List.mem_of_getElem? (i := 783) (by decide +kernel), List.mem_of_getElem? (i := 784) (by decide +kernel)⟩
theorem lw_p53 : lw_okq (⟨"GuardedPoolModel", "leaks", "(I)I"⟩, 17) := ⟨⟨by decide +kernel, by decide +kernel⟩, List.mem_of_getElem? (i := 612) (by decide +kernel), List.mem_of_getElem? (i := 787) (by decide +kernel), List.mem_of_getElem? (i := 788) (by decide +kernel)⟩
theorem lw_p54 : lw_okq (⟨"GuardedPoolModel", "isLeak", "(I)Z"⟩, 17) := ⟨⟨by decide +kernel, by decide +kernel⟩, List.mem_of_getElem? (i := 612) (by decide +kernel), List.mem_of_getElem? (i := 791) (by decide +kernel), List.mem_of_getElem? (i := 792) (by decide +kernel)⟩
theorem lw_p55 : lw_okq (⟨"GuardedPoolModel", "sweeps", "()I"⟩, 17) := ⟨⟨by decide +kernel, by decide +kernel⟩, List.mem_of_getElem? (i := 612) (by decide +kernel), List.mem_of_getElem? (i := 799) (by decide +kernel), List.mem_of_getElem? (i := 800) (by decide +kernel)⟩
theorem lw_p56 : lw_okq (⟨"GuardedPoolModel", "go", "(Z)I"⟩, 17) := ⟨⟨by decide +kernel, by decide +kernel⟩, List.mem_of_getElem? (i := 612) (by decide +kernel), List.mem_of_getElem? (i := 815) (by decide +kernel), List.mem_of_getElem? (i := 816) (by decide +kernel)⟩
theorem lw_p57 : lw_okq (⟨"GuardedPoolModel", "read", "()V"⟩, 17) := ⟨⟨by decide +kernel, by decide +kernel⟩, List.mem_of_getElem? (i := 612) (by decide +kernel), List.mem_of_getElem? (i := 819) (by decide +kernel), List.mem_of_getElem? (i := 820) (by decide +kernel)⟩
theorem lw_p58 : lw_okq (⟨"GuardedPoolModel", "number", "(II)I"⟩, 17) := ⟨⟨by decide +kernel, by decide +kernel⟩, List.mem_of_getElem? (i := 612) (by decide +kernel), List.mem_of_getElem? (i := 823) (by decide +kernel), List.mem_of_getElem? (i := 824) (by decide +kernel)⟩
theorem lw_p59 : lw_okq (⟨"GuardedPoolModel", "sign", "(II)I"⟩, 17) := ⟨⟨by decide +kernel, by decide +kernel⟩, List.mem_of_getElem? (i := 612) (by decide +kernel), List.mem_of_getElem? (i := 827) (by decide +kernel), List.mem_of_getElem? (i := 828) (by decide +kernel)⟩
theorem lw_p60 : lw_okq (⟨"GuardedPoolModel", "does", "()I"⟩, 17) := ⟨⟨by decide +kernel, by decide +kernel⟩, List.mem_of_getElem? (i := 612) (by decide +kernel), List.mem_of_getElem? (i := 831) (by decide +kernel), List.mem_of_getElem? (i := 832) (by decide +kernel)⟩
theorem lw_p61 : lw_okq (⟨"GuardedPoolModel", "putAside", "()V"⟩, 17) := ⟨⟨by decide +kernel, by decide +kernel⟩, List.mem_of_getElem? (i := 612) (by decide +kernel), List.mem_of_getElem? (i := 835) (by decide +kernel), List.mem_of_getElem? (i := 836) (by decide +kernel)⟩
theorem lw_p62 : lw_okq (⟨"GuardedPoolModel", "putBack", "()V"⟩, 17) := ⟨⟨by decide +kernel, by decide +kernel⟩, List.mem_of_getElem? (i := 612) (by decide +kernel), List.mem_of_getElem? (i := 839) (by decide +kernel), List.mem_of_getElem? (i := 840) (by decide +kernel)⟩
theorem lw_p63 : lw_okq (⟨"GuardedPoolModel", "owned", "()I"⟩, 17) := ⟨⟨by decide +kernel, by decide +kernel⟩, List.mem_of_getElem? (i := 612) (by decide +kernel), List.mem_of_getElem? (i := 855) (by decide +kernel), List.mem_of_getElem? (i := 856) (by decide +kernel)⟩
def lw_privs_4 : List (MethodName × Nat) := [(⟨"GuardedPoolModel", "isGuard", "(I)Z"⟩, 17), (⟨"GuardedPoolModel", "puts", "(II)I"⟩, 17), (⟨"GuardedPoolModel", "blocksOf", "(I)I"⟩, 17), (⟨"GuardedPoolModel", "passFault", "(I)I"⟩, 17), (⟨"GuardedPoolModel", "passes", "(I)I"⟩, 17), (⟨"GuardedPoolModel", "leaks", "(I)I"⟩, 17), (⟨"GuardedPoolModel", "isLeak", "(I)Z"⟩, 17), (⟨"GuardedPoolModel", "sweeps", "()I"⟩, 17), (⟨"GuardedPoolModel", "go", "(Z)I"⟩, 17), (⟨"GuardedPoolModel", "read", "()V"⟩, 17), (⟨"GuardedPoolModel", "number", "(II)I"⟩, 17), (⟨"GuardedPoolModel", "sign", "(II)I"⟩, 17), (⟨"GuardedPoolModel", "does", "()I"⟩, 17), (⟨"GuardedPoolModel", "putAside", "()V"⟩, 17), (⟨"GuardedPoolModel", "putBack", "()V"⟩, 17), (⟨"GuardedPoolModel", "owned", "()I"⟩, 17)]
theorem lw_r4 : ∀ q ∈ lw_privs_4, lw_okq q := List.forall_mem_cons.mpr ⟨lw_p48, List.forall_mem_cons.mpr ⟨lw_p49, List.forall_mem_cons.mpr ⟨lw_p50, List.forall_mem_cons.mpr ⟨lw_p51, List.forall_mem_cons.mpr ⟨lw_p52, List.forall_mem_cons.mpr ⟨lw_p53, List.forall_mem_cons.mpr ⟨lw_p54, List.forall_mem_cons.mpr ⟨lw_p55, List.forall_mem_cons.mpr ⟨lw_p56, List.forall_mem_cons.mpr ⟨lw_p57, List.forall_mem_cons.mpr ⟨lw_p58, List.forall_mem_cons.mpr ⟨lw_p59, List.forall_mem_cons.mpr ⟨lw_p60, List.forall_mem_cons.mpr ⟨lw_p61, List.forall_mem_cons.mpr ⟨lw_p62, List.forall_mem_cons.mpr ⟨lw_p63, fun _ h => absurd h List.not_mem_nil⟩⟩⟩⟩⟩⟩⟩⟩⟩⟩⟩⟩⟩⟩⟩⟩
theorem lw_p64 : lw_okq (⟨"GuardedPoolModel", "asked", "(I)I"⟩, 17) := ⟨⟨by decide +kernel, by decide +kernel⟩, List.mem_of_getElem? (i := 612) (by decide +kernel), List.mem_of_getElem? (i := 878) (by decide +kernel), List.mem_of_getElem? (i := 879) (by decide +kernel)⟩
theorem lw_p65 : lw_okq (⟨"GuardedPoolModel", "ahead", "(I)I"⟩, 17) := ⟨⟨by decide +kernel, by decide +kernel⟩, List.mem_of_getElem? (i := 612) (by decide +kernel), List.mem_of_getElem? (i := 894) (by decide +kernel), List.mem_of_getElem? (i := 895) (by decide +kernel)⟩
theorem lw_p66 : lw_okq (⟨"GuardedPoolModel", "freeWords", "()I"⟩, 17) := ⟨⟨by decide +kernel, by decide +kernel⟩, List.mem_of_getElem? (i := 612) (by decide +kernel), List.mem_of_getElem? (i := 910) (by decide +kernel), List.mem_of_getElem? (i := 911) (by decide +kernel)⟩
def lw_privs_5 : List (MethodName × Nat) := [(⟨"GuardedPoolModel", "asked", "(I)I"⟩, 17), (⟨"GuardedPoolModel", "ahead", "(I)I"⟩, 17), (⟨"GuardedPoolModel", "freeWords", "()I"⟩, 17)]
theorem lw_r5 : ∀ q ∈ lw_privs_5, lw_okq q := List.forall_mem_cons.mpr ⟨lw_p64, List.forall_mem_cons.mpr ⟨lw_p65, List.forall_mem_cons.mpr ⟨lw_p66, fun _ h => absurd h List.not_mem_nil⟩⟩⟩
def lw_privs : List (MethodName × Nat) := lw_privs_1 ++ (lw_privs_2 ++ (lw_privs_3 ++ (lw_privs_4 ++ (lw_privs_5))))
def lw_tbl : List Cond := k2_sels lw_privs ++ tables_1
theorem lw_privs_ok : ∀ q ∈ lw_privs, lw_okq q := by
  show ∀ q ∈ lw_privs_1 ++ (lw_privs_2 ++ (lw_privs_3 ++ (lw_privs_4 ++ (lw_privs_5)))), lw_okq q
  exact List.forall_mem_append.mpr ⟨lw_r1, List.forall_mem_append.mpr ⟨lw_r2, List.forall_mem_append.mpr ⟨lw_r3, List.forall_mem_append.mpr ⟨lw_r4, lw_r5⟩⟩⟩⟩
end
section
/-! tables: classes, fields, methods, links; printed by wip/whole/gen_tables.py out of the claim -/
abbrev MI : Type := MethodName × ByteArray × Nat × Option FieldType × Room
abbrev mnm (y : MI) : MethodName := y.1
abbrev mbc (y : MI) : ByteArray := y.2.1
abbrev mml (y : MI) : Nat := y.2.2.1
abbrev mrt (y : MI) : Option FieldType := y.2.2.2.1
abbrev mrm (y : MI) : Room := y.2.2.2.2
def cnm (ci : Nat) : String := match ci with
  | 0 => "GuardedPool$Block"
  | 1 => "GuardedPool$Command"
  | 2 => "GuardedPool$History"
  | 3 => "GuardedPool$State"
  | 4 => "GuardedPool$Task"
  | 5 => "GuardedPool$Text"
  | 6 => "GuardedPool"
  | _ => "GuardedPoolModel"
/-- fields: name, descriptor, final, kind (0 int, 1 boolean, 2 reference) -/
def ftb (ci : Nat) : List (String × String × Bool × Nat) := match ci with
  | 0 => [("begin", "I", true, 0), ("size", "I", false, 0), ("owner", "I", false, 0), ("number", "I", false, 0), ("asked", "I", false, 0), ("used", "I", false, 0)]
  | 1 => [("kind", "I", false, 0), ("first", "I", false, 0), ("second", "I", false, 0)]
  | 2 => [("states", "[LGuardedPool$State;", true, 2), ("next", "I", false, 0), ("length", "I", false, 0)]
  | 3 => [("blocks", "[LGuardedPool$Block;", true, 2), ("values", "[I", true, 2), ("tasks", "[LGuardedPool$Task;", true, 2), ("clock", "I", false, 0), ("patience", "I", false, 0), ("granted", "I", false, 0), ("splits", "I", false, 0), ("joins", "I", false, 0), ("foundBroken", "I", false, 0)]
  | 4 => [("alive", "Z", false, 1), ("limit", "I", false, 0), ("guardsBroken", "I", false, 0)]
  | 5 => [("characters", "[C", true, 2), ("length", "I", false, 0), ("commands", "[LGuardedPool$Command;", true, 2), ("commandCount", "I", false, 0), ("position", "I", false, 0), ("faulty", "Z", false, 1)]
  | 6 => [("now", "LGuardedPool$State;", true, 2), ("before", "LGuardedPool$State;", true, 2), ("snapshot", "LGuardedPool$State;", true, 2), ("hasSnapshot", "Z", false, 1), ("history", "LGuardedPool$History;", true, 2), ("text", "LGuardedPool$Text;", true, 2), ("refusals", "[I", true, 2), ("hasStopped", "Z", false, 1), ("stoppedCommand", "I", false, 0), ("stoppedError", "I", false, 0)]
  | _ => [("s", "[I", true, 2), ("aside", "[I", true, 2), ("before", "[I", true, 2), ("known", "I", false, 0), ("kept", "[I", true, 2), ("isKept", "Z", false, 1), ("refusals", "[I", true, 2), ("text", "[I", true, 2), ("typed", "I", false, 0), ("stoppedAt", "I", false, 0), ("stoppedBy", "I", false, 0), ("at", "I", false, 0), ("isWrong", "Z", false, 1), ("letter", "I", false, 0), ("one", "I", false, 0), ("two", "I", false, 0), ("fault", "I", false, 0)]
def nfd (ci : Nat) : Nat := match ci with
  | 0 => 6
  | 1 => 3
  | 2 => 3
  | 3 => 9
  | 4 => 3
  | 5 => 6
  | 6 => 10
  | _ => 17
def Tcl (ci : Nat) : u_T := fun k => (cnm ci, ((ftb ci).getD k ("", "I", false, 0)).1, ((ftb ci).getD k ("", "I", false, 0)).2.1, ((ftb ci).getD k ("", "I", false, 0)).2.2.1)
def tyk (ci k : Nat) : Nat := ((ftb ci).getD k ("", "I", false, 0)).2.2.2
def tyc (ci : Nat) : Nat → FieldType := fun k => (parseFieldDescriptor (Tcl ci k).2.2.1).getD .int
def cls_l : List vw_C := [(cnm 0, Tcl 0, 6), (cnm 1, Tcl 1, 3), (cnm 2, Tcl 2, 3), (cnm 3, Tcl 3, 9), (cnm 4, Tcl 4, 3), (cnm 5, Tcl 5, 6), (cnm 6, Tcl 6, 10), (cnm 7, Tcl 7, 17)]
theorem tyc_ok : ∀ ci, ci < 8 → ∀ k, k < nfd ci → parseFieldDescriptor (Tcl ci k).2.2.1 = some (tyc ci k) := by decide +kernel
theorem nm_ok : ∀ ci, ci < 8 → ∀ a, a < nfd ci → ∀ b, b < nfd ci → a ≠ b → (Tcl ci a).2.1 ≠ (Tcl ci b).2.1 := by decide +kernel
theorem cls_ok : ∀ ci, ci < 8 → cls_l[ci]? = some (cnm ci, Tcl ci, nfd ci) := by
  intro ci h
  match ci, h with
  | 0, _ => rfl
  | 1, _ => rfl
  | 2, _ => rfl
  | 3, _ => rfl
  | 4, _ => rfl
  | 5, _ => rfl
  | 6, _ => rfl
  | 7, _ => rfl
theorem in_raw (i : Nat) {w : Cond} (h : tables_1[i]? = some w) : w ∈ lw_tbl := List.mem_append_right _ (List.mem_of_getElem? h)
def lw_g : List Cond := lw_tbl.filter goodWord
theorem in_tbl (i : Nat) {w : Cond} (h : tables_1[i]? = some w ∧ goodWord w = true) : w ∈ lw_g := List.mem_filter.mpr ⟨List.mem_append_right _ (List.mem_of_getElem? h.1), h.2⟩
theorem in_sel (i : Nat) {w : Cond} (h : (k2_sels lw_privs)[i]? = some w ∧ goodWord w = true) : w ∈ lw_g := List.mem_filter.mpr ⟨List.mem_append_left _ (List.mem_of_getElem? h.1), h.2⟩
theorem lw_good : ∀ w ∈ lw_g, (w.onTables && w.keeps) = true ∨ ∃ ty, w = .arrayClass ty := fun w h => good_of_word (List.mem_filter.mp h).2
theorem lay_Blk : ∀ w ∈ u_ws (cnm 0) (Tcl 0) 6, w ∈ lw_g := by
  intro w hw
  obtain ⟨k, hk, rfl⟩ := List.mem_map.mp hw
  have hk := List.mem_range.mp hk
  rcases (show k = 0 ∨ k = 1 ∨ k = 2 ∨ k = 3 ∨ k = 4 ∨ k = 5 by omega) with rfl | rfl | rfl | rfl | rfl | rfl
  · exact in_tbl 44 (by decide +kernel)
  · exact in_tbl 46 (by decide +kernel)
  · exact in_tbl 48 (by decide +kernel)
  · exact in_tbl 50 (by decide +kernel)
  · exact in_tbl 52 (by decide +kernel)
  · exact in_tbl 54 (by decide +kernel)
theorem lay_Cmd : ∀ w ∈ u_ws (cnm 1) (Tcl 1) 3, w ∈ lw_g := by
  intro w hw
  obtain ⟨k, hk, rfl⟩ := List.mem_map.mp hw
  have hk := List.mem_range.mp hk
  rcases (show k = 0 ∨ k = 1 ∨ k = 2 by omega) with rfl | rfl | rfl
  · exact in_tbl 144 (by decide +kernel)
  · exact in_tbl 146 (by decide +kernel)
  · exact in_tbl 148 (by decide +kernel)
theorem lay_His : ∀ w ∈ u_ws (cnm 2) (Tcl 2) 3, w ∈ lw_g := by
  intro w hw
  obtain ⟨k, hk, rfl⟩ := List.mem_map.mp hw
  have hk := List.mem_range.mp hk
  rcases (show k = 0 ∨ k = 1 ∨ k = 2 by omega) with rfl | rfl | rfl
  · exact in_tbl 118 (by decide +kernel)
  · exact in_tbl 120 (by decide +kernel)
  · exact in_tbl 122 (by decide +kernel)
theorem lay_Sta : ∀ w ∈ u_ws (cnm 3) (Tcl 3) 9, w ∈ lw_g := by
  intro w hw
  obtain ⟨k, hk, rfl⟩ := List.mem_map.mp hw
  have hk := List.mem_range.mp hk
  rcases (show k = 0 ∨ k = 1 ∨ k = 2 ∨ k = 3 ∨ k = 4 ∨ k = 5 ∨ k = 6 ∨ k = 7 ∨ k = 8 by omega) with rfl | rfl | rfl | rfl | rfl | rfl | rfl | rfl | rfl
  · exact in_tbl 87 (by decide +kernel)
  · exact in_tbl 89 (by decide +kernel)
  · exact in_tbl 91 (by decide +kernel)
  · exact in_tbl 93 (by decide +kernel)
  · exact in_tbl 95 (by decide +kernel)
  · exact in_tbl 97 (by decide +kernel)
  · exact in_tbl 99 (by decide +kernel)
  · exact in_tbl 101 (by decide +kernel)
  · exact in_tbl 103 (by decide +kernel)
theorem lay_Tsk : ∀ w ∈ u_ws (cnm 4) (Tcl 4) 3, w ∈ lw_g := by
  intro w hw
  obtain ⟨k, hk, rfl⟩ := List.mem_map.mp hw
  have hk := List.mem_range.mp hk
  rcases (show k = 0 ∨ k = 1 ∨ k = 2 by omega) with rfl | rfl | rfl
  · exact in_tbl 70 (by decide +kernel)
  · exact in_tbl 72 (by decide +kernel)
  · exact in_tbl 74 (by decide +kernel)
theorem lay_Txt : ∀ w ∈ u_ws (cnm 5) (Tcl 5) 6, w ∈ lw_g := by
  intro w hw
  obtain ⟨k, hk, rfl⟩ := List.mem_map.mp hw
  have hk := List.mem_range.mp hk
  rcases (show k = 0 ∨ k = 1 ∨ k = 2 ∨ k = 3 ∨ k = 4 ∨ k = 5 by omega) with rfl | rfl | rfl | rfl | rfl | rfl
  · exact in_tbl 158 (by decide +kernel)
  · exact in_tbl 160 (by decide +kernel)
  · exact in_tbl 162 (by decide +kernel)
  · exact in_tbl 164 (by decide +kernel)
  · exact in_tbl 166 (by decide +kernel)
  · exact in_tbl 168 (by decide +kernel)
theorem lay_Poo : ∀ w ∈ u_ws (cnm 6) (Tcl 6) 10, w ∈ lw_g := by
  intro w hw
  obtain ⟨k, hk, rfl⟩ := List.mem_map.mp hw
  have hk := List.mem_range.mp hk
  rcases (show k = 0 ∨ k = 1 ∨ k = 2 ∨ k = 3 ∨ k = 4 ∨ k = 5 ∨ k = 6 ∨ k = 7 ∨ k = 8 ∨ k = 9 by omega) with rfl | rfl | rfl | rfl | rfl | rfl | rfl | rfl | rfl | rfl
  · exact in_tbl 181 (by decide +kernel)
  · exact in_tbl 183 (by decide +kernel)
  · exact in_tbl 185 (by decide +kernel)
  · exact in_tbl 187 (by decide +kernel)
  · exact in_tbl 189 (by decide +kernel)
  · exact in_tbl 191 (by decide +kernel)
  · exact in_tbl 193 (by decide +kernel)
  · exact in_tbl 195 (by decide +kernel)
  · exact in_tbl 197 (by decide +kernel)
  · exact in_tbl 199 (by decide +kernel)
theorem lay_Mod : ∀ w ∈ u_ws (cnm 7) (Tcl 7) 17, w ∈ lw_g := by
  intro w hw
  obtain ⟨k, hk, rfl⟩ := List.mem_map.mp hw
  have hk := List.mem_range.mp hk
  rcases (show k = 0 ∨ k = 1 ∨ k = 2 ∨ k = 3 ∨ k = 4 ∨ k = 5 ∨ k = 6 ∨ k = 7 ∨ k = 8 ∨ k = 9 ∨ k = 10 ∨ k = 11 ∨ k = 12 ∨ k = 13 ∨ k = 14 ∨ k = 15 ∨ k = 16 by omega) with rfl | rfl | rfl | rfl | rfl | rfl | rfl | rfl | rfl | rfl | rfl | rfl | rfl | rfl | rfl | rfl | rfl
  · exact in_tbl 634 (by decide +kernel)
  · exact in_tbl 636 (by decide +kernel)
  · exact in_tbl 638 (by decide +kernel)
  · exact in_tbl 640 (by decide +kernel)
  · exact in_tbl 642 (by decide +kernel)
  · exact in_tbl 644 (by decide +kernel)
  · exact in_tbl 646 (by decide +kernel)
  · exact in_tbl 648 (by decide +kernel)
  · exact in_tbl 650 (by decide +kernel)
  · exact in_tbl 652 (by decide +kernel)
  · exact in_tbl 654 (by decide +kernel)
  · exact in_tbl 656 (by decide +kernel)
  · exact in_tbl 658 (by decide +kernel)
  · exact in_tbl 660 (by decide +kernel)
  · exact in_tbl 662 (by decide +kernel)
  · exact in_tbl 664 (by decide +kernel)
  · exact in_tbl 666 (by decide +kernel)
theorem lay_ok : ∀ ci, ci < 8 → ∀ w ∈ u_ws (cnm ci) (Tcl ci) (nfd ci), w ∈ lw_g := by
  intro ci h
  match ci, h with
  | 0, _ => exact lay_Blk
  | 1, _ => exact lay_Cmd
  | 2, _ => exact lay_His
  | 3, _ => exact lay_Sta
  | 4, _ => exact lay_Tsk
  | 5, _ => exact lay_Txt
  | 6, _ => exact lay_Poo
  | 7, _ => exact lay_Mod
theorem ini_Law : Cond.initialized "GuardedPoolLaw" ∈ lw_g := in_tbl 0 (by decide +kernel)
theorem ini_Poo : Cond.initialized "GuardedPool" ∈ lw_g := in_tbl 1 (by decide +kernel)
theorem ini_Sta : Cond.initialized "GuardedPool$State" ∈ lw_g := in_tbl 2 (by decide +kernel)
theorem ini_Blk : Cond.initialized "GuardedPool$Block" ∈ lw_g := in_tbl 3 (by decide +kernel)
theorem ini_Tsk : Cond.initialized "GuardedPool$Task" ∈ lw_g := in_tbl 4 (by decide +kernel)
theorem ini_His : Cond.initialized "GuardedPool$History" ∈ lw_g := in_tbl 5 (by decide +kernel)
theorem ini_Txt : Cond.initialized "GuardedPool$Text" ∈ lw_g := in_tbl 6 (by decide +kernel)
theorem ini_Cmd : Cond.initialized "GuardedPool$Command" ∈ lw_g := in_tbl 7 (by decide +kernel)
theorem ini_Mod : Cond.initialized "GuardedPoolModel" ∈ lw_g := in_tbl 8 (by decide +kernel)
theorem ini_System : Cond.initialized "java/lang/System" ∈ lw_g := in_tbl 9 (by decide +kernel)
theorem ini_Math : Cond.initialized "java/lang/Math" ∈ lw_g := in_tbl 10 (by decide +kernel)
def mi_Poo_init : MI := (⟨"GuardedPool", "<init>", "()V"⟩, prog_1_method_1_code, 1, none, ({ frames := 4, cells := 218, slots := 1659, locals := 85 } : Room))
def mi_Sta_init : MI := (⟨"GuardedPool$State", "<init>", "()V"⟩, prog_5_method_1_code, 3, none, ({ frames := 2, cells := 25, slots := 200, locals := 42 } : Room))
def mi_Blk_init : MI := (⟨"GuardedPool$Block", "<init>", "(II)V"⟩, prog_2_method_1_code, 3, none, ({ frames := 1, cells := 0, slots := 0, locals := 20 } : Room))
def mi_Tsk_init : MI := (⟨"GuardedPool$Task", "<init>", "()V"⟩, prog_6_method_1_code, 1, none, ({ frames := 1, cells := 0, slots := 0, locals := 20 } : Room))
def mi_His_init : MI := (⟨"GuardedPool$History", "<init>", "()V"⟩, prog_4_method_1_code, 2, none, ({ frames := 3, cells := 105, slots := 840, locals := 64 } : Room))
def mi_Txt_init : MI := (⟨"GuardedPool$Text", "<init>", "()V"⟩, prog_7_method_1_code, 2, none, ({ frames := 2, cells := 32, slots := 180, locals := 40 } : Room))
def mi_Cmd_init : MI := (⟨"GuardedPool$Command", "<init>", "()V"⟩, prog_3_method_1_code, 1, none, ({ frames := 1, cells := 0, slots := 0, locals := 20 } : Room))
def mi_Poo_ask : MI := (⟨"GuardedPool", "ask", "(II)I"⟩, prog_1_method_2_code, 4, some .int, ({ frames := 5, cells := 0, slots := 0, locals := 117 } : Room))
def mi_Sta_copyFrom : MI := (⟨"GuardedPool$State", "copyFrom", "(LGuardedPool$State;)V"⟩, prog_5_method_2_code, 3, none, ({ frames := 1, cells := 0, slots := 0, locals := 40 } : Room))
def mi_Blk_copyFrom : MI := (⟨"GuardedPool$Block", "copyFrom", "(LGuardedPool$Block;)V"⟩, prog_2_method_3_code, 2, none, ({ frames := 0, cells := 0, slots := 0, locals := 0 } : Room))
def mi_Tsk_copyFrom : MI := (⟨"GuardedPool$Task", "copyFrom", "(LGuardedPool$Task;)V"⟩, prog_6_method_2_code, 2, none, ({ frames := 0, cells := 0, slots := 0, locals := 0 } : Room))
def mi_Sta_grant : MI := (⟨"GuardedPool$State", "grant", "(II)I"⟩, prog_5_method_3_code, 5, some .int, ({ frames := 4, cells := 0, slots := 0, locals := 93 } : Room))
def mi_Sta_whyNot : MI := (⟨"GuardedPool$State", "whyNot", "(II)I"⟩, prog_5_method_34_code, 5, some .int, ({ frames := 3, cells := 0, slots := 0, locals := 69 } : Room))
def mi_Sta_taskOf : MI := (⟨"GuardedPool$State", "taskOf", "(I)LGuardedPool$Task;"⟩, prog_5_method_19_code, 2, some (.object "GuardedPool$Task"), ({ frames := 0, cells := 0, slots := 0, locals := 0 } : Room))
def mi_Sta_sizeFor : MI := (⟨"GuardedPool$State", "sizeFor", "(I)I"⟩, prog_5_method_12_code, 2, some .int, ({ frames := 1, cells := 0, slots := 0, locals := 20 } : Room))
def mi_Blk_wordsOf : MI := (⟨"GuardedPool$Block", "wordsOf", "(I)I"⟩, prog_2_method_2_code, 1, some .int, ({ frames := 0, cells := 0, slots := 0, locals := 0 } : Room))
def mi_Sta_wordsOf : MI := (⟨"GuardedPool$State", "wordsOf", "(I)I"⟩, prog_5_method_43_code, 7, some .int, ({ frames := 2, cells := 0, slots := 0, locals := 40 } : Room))
def mi_Blk_words : MI := (⟨"GuardedPool$Block", "words", "()I"⟩, prog_2_method_4_code, 1, some .int, ({ frames := 1, cells := 0, slots := 0, locals := 20 } : Room))
def mi_Sta_roomFor : MI := (⟨"GuardedPool$State", "roomFor", "(I)LGuardedPool$Block;"⟩, prog_5_method_14_code, 4, some (.object "GuardedPool$Block"), ({ frames := 2, cells := 0, slots := 0, locals := 46 } : Room))
def mi_Sta_lowestFree : MI := (⟨"GuardedPool$State", "lowestFree", "(I)LGuardedPool$Block;"⟩, prog_5_method_13_code, 6, some (.object "GuardedPool$Block"), ({ frames := 1, cells := 0, slots := 0, locals := 21 } : Room))
def mi_Blk_isFreeOf : MI := (⟨"GuardedPool$Block", "isFreeOf", "(I)Z"⟩, prog_2_method_6_code, 2, some .boolean, ({ frames := 0, cells := 0, slots := 0, locals := 0 } : Room))
def mi_Sta_cutOut : MI := (⟨"GuardedPool$State", "cutOut", "(I)LGuardedPool$Block;"⟩, prog_5_method_15_code, 4, some (.object "GuardedPool$Block"), ({ frames := 3, cells := 0, slots := 0, locals := 69 } : Room))
def mi_Sta_halve : MI := (⟨"GuardedPool$State", "halve", "(LGuardedPool$Block;)V"⟩, prog_5_method_16_code, 3, none, ({ frames := 2, cells := 0, slots := 0, locals := 40 } : Room))
def mi_Sta_placeAt : MI := (⟨"GuardedPool$State", "placeAt", "(I)LGuardedPool$Block;"⟩, prog_5_method_22_code, 2, some (.object "GuardedPool$Block"), ({ frames := 0, cells := 0, slots := 0, locals := 0 } : Room))
def mi_Poo_countRefusal : MI := (⟨"GuardedPool", "countRefusal", "(I)V"⟩, prog_1_method_29_code, 2, none, ({ frames := 0, cells := 0, slots := 0, locals := 0 } : Room))
def mi_Poo_recorded : MI := (⟨"GuardedPool", "recorded", "(I)I"⟩, prog_1_method_28_code, 2, some .int, ({ frames := 3, cells := 0, slots := 0, locals := 83 } : Room))
def mi_His_record : MI := (⟨"GuardedPool$History", "record", "(LGuardedPool$State;)V"⟩, prog_4_method_3_code, 2, none, ({ frames := 2, cells := 0, slots := 0, locals := 62 } : Room))
def mi_Poo_giveBack : MI := (⟨"GuardedPool", "giveBack", "(II)I"⟩, prog_1_method_3_code, 3, some .int, ({ frames := 4, cells := 0, slots := 0, locals := 104 } : Room))
def mi_Sta_takeBack : MI := (⟨"GuardedPool$State", "takeBack", "(II)I"⟩, prog_5_method_4_code, 4, some .int, ({ frames := 3, cells := 0, slots := 0, locals := 70 } : Room))
def mi_Sta_blockOf : MI := (⟨"GuardedPool$State", "blockOf", "(I)LGuardedPool$Block;"⟩, prog_5_method_20_code, 6, some (.object "GuardedPool$Block"), ({ frames := 1, cells := 0, slots := 0, locals := 20 } : Room))
def mi_Blk_isOwned : MI := (⟨"GuardedPool$Block", "isOwned", "()Z"⟩, prog_2_method_5_code, 1, some .boolean, ({ frames := 0, cells := 0, slots := 0, locals := 0 } : Room))
def mi_Sta_free : MI := (⟨"GuardedPool$State", "free", "(LGuardedPool$Block;)I"⟩, prog_5_method_17_code, 5, some .int, ({ frames := 2, cells := 0, slots := 0, locals := 46 } : Room))
def mi_Sta_brokenGuards : MI := (⟨"GuardedPool$State", "brokenGuards", "(LGuardedPool$Block;)I"⟩, prog_5_method_26_code, 4, some .int, ({ frames := 1, cells := 0, slots := 0, locals := 21 } : Room))
def mi_Sta_valueAt : MI := (⟨"GuardedPool$State", "valueAt", "(I)I"⟩, prog_5_method_23_code, 2, some .int, ({ frames := 0, cells := 0, slots := 0, locals := 0 } : Room))
def mi_Blk_rearGuard : MI := (⟨"GuardedPool$Block", "rearGuard", "()I"⟩, prog_2_method_8_code, 1, some .int, ({ frames := 0, cells := 0, slots := 0, locals := 0 } : Room))
def mi_Sta_setValue : MI := (⟨"GuardedPool$State", "setValue", "(II)V"⟩, prog_5_method_24_code, 3, none, ({ frames := 0, cells := 0, slots := 0, locals := 0 } : Room))
def mi_Sta_joinTwins : MI := (⟨"GuardedPool$State", "joinTwins", "(LGuardedPool$Block;)V"⟩, prog_5_method_18_code, 6, none, ({ frames := 1, cells := 0, slots := 0, locals := 21 } : Room))
def mi_Poo_write : MI := (⟨"GuardedPool", "write", "(IIII)I"⟩, prog_1_method_4_code, 5, some .int, ({ frames := 5, cells := 0, slots := 0, locals := 115 } : Room))
def mi_Sta_put : MI := (⟨"GuardedPool$State", "put", "(IIII)I"⟩, prog_5_method_5_code, 10, some .int, ({ frames := 4, cells := 0, slots := 0, locals := 86 } : Room))
def mi_Sta_blockAt : MI := (⟨"GuardedPool$State", "blockAt", "(I)LGuardedPool$Block;"⟩, prog_5_method_21_code, 6, some (.object "GuardedPool$Block"), ({ frames := 3, cells := 0, slots := 0, locals := 61 } : Room))
def mi_Blk_holds : MI := (⟨"GuardedPool$Block", "holds", "(I)Z"⟩, prog_2_method_7_code, 2, some .boolean, ({ frames := 2, cells := 0, slots := 0, locals := 40 } : Room))
def mi_Sta_kindOfHit : MI := (⟨"GuardedPool$State", "kindOfHit", "(ILGuardedPool$Block;LGuardedPool$Block;)I"⟩, prog_5_method_25_code, 3, some .int, ({ frames := 2, cells := 0, slots := 0, locals := 41 } : Room))
def mi_Blk_hasGuardAt : MI := (⟨"GuardedPool$Block", "hasGuardAt", "(I)Z"⟩, prog_2_method_9_code, 2, some .boolean, ({ frames := 1, cells := 0, slots := 0, locals := 20 } : Room))
def mi_Blk_wasAskedFor : MI := (⟨"GuardedPool$Block", "wasAskedFor", "(I)Z"⟩, prog_2_method_10_code, 2, some .boolean, ({ frames := 1, cells := 0, slots := 0, locals := 20 } : Room))
def mi_Poo_touch : MI := (⟨"GuardedPool", "touch", "(I)I"⟩, prog_1_method_5_code, 2, some .int, ({ frames := 4, cells := 0, slots := 0, locals := 104 } : Room))
def mi_Sta_useNow : MI := (⟨"GuardedPool$State", "useNow", "(I)I"⟩, prog_5_method_6_code, 4, some .int, ({ frames := 2, cells := 0, slots := 0, locals := 45 } : Room))
def mi_Sta_ageOf : MI := (⟨"GuardedPool$State", "ageOf", "(LGuardedPool$Block;)I"⟩, prog_5_method_27_code, 2, some .int, ({ frames := 0, cells := 0, slots := 0, locals := 0 } : Room))
def mi_Poo_live : MI := (⟨"GuardedPool", "live", "(IZ)I"⟩, prog_1_method_6_code, 3, some .int, ({ frames := 4, cells := 0, slots := 0, locals := 104 } : Room))
def mi_Sta_makeAlive : MI := (⟨"GuardedPool$State", "makeAlive", "(IZ)I"⟩, prog_5_method_7_code, 4, some .int, ({ frames := 1, cells := 0, slots := 0, locals := 26 } : Room))
def mi_Sta_blocksOf : MI := (⟨"GuardedPool$State", "blocksOf", "(I)I"⟩, prog_5_method_42_code, 7, some .int, ({ frames := 0, cells := 0, slots := 0, locals := 0 } : Room))
def mi_Poo_setLimit : MI := (⟨"GuardedPool", "setLimit", "(II)I"⟩, prog_1_method_7_code, 3, some .int, ({ frames := 4, cells := 0, slots := 0, locals := 104 } : Room))
def mi_Sta_changeLimit : MI := (⟨"GuardedPool$State", "changeLimit", "(II)I"⟩, prog_5_method_8_code, 5, some .int, ({ frames := 1, cells := 0, slots := 0, locals := 21 } : Room))
def mi_Poo_setPatience : MI := (⟨"GuardedPool", "setPatience", "(I)I"⟩, prog_1_method_8_code, 2, some .int, ({ frames := 4, cells := 0, slots := 0, locals := 104 } : Room))
def mi_Sta_changePatience : MI := (⟨"GuardedPool$State", "changePatience", "(I)I"⟩, prog_5_method_9_code, 3, some .int, ({ frames := 0, cells := 0, slots := 0, locals := 0 } : Room))
def mi_Poo_pass : MI := (⟨"GuardedPool", "pass", "(I)I"⟩, prog_1_method_9_code, 2, some .int, ({ frames := 5, cells := 0, slots := 0, locals := 113 } : Room))
def mi_Sta_advance : MI := (⟨"GuardedPool$State", "advance", "(I)I"⟩, prog_5_method_10_code, 3, some .int, ({ frames := 4, cells := 0, slots := 0, locals := 91 } : Room))
def mi_Sta_leaks : MI := (⟨"GuardedPool$State", "leaks", "()I"⟩, prog_5_method_41_code, 3, some .int, ({ frames := 3, cells := 0, slots := 0, locals := 69 } : Room))
def mi_Sta_leaksOf : MI := (⟨"GuardedPool$State", "leaksOf", "(I)I"⟩, prog_5_method_45_code, 7, some .int, ({ frames := 2, cells := 0, slots := 0, locals := 43 } : Room))
def mi_Sta_isLeak : MI := (⟨"GuardedPool$State", "isLeak", "(LGuardedPool$Block;)Z"⟩, prog_5_method_28_code, 3, some .boolean, ({ frames := 1, cells := 0, slots := 0, locals := 21 } : Room))
def mi_Poo_sweep : MI := (⟨"GuardedPool", "sweep", "()I"⟩, prog_1_method_10_code, 1, some .int, ({ frames := 4, cells := 0, slots := 0, locals := 104 } : Room))
def mi_Sta_takeLeaksBack : MI := (⟨"GuardedPool$State", "takeLeaksBack", "()I"⟩, prog_5_method_11_code, 6, some .int, ({ frames := 3, cells := 0, slots := 0, locals := 70 } : Room))
def mi_Poo_type : MI := (⟨"GuardedPool", "type", "(C)I"⟩, prog_1_method_11_code, 2, some .int, ({ frames := 1, cells := 0, slots := 0, locals := 21 } : Room))
def mi_Txt_append : MI := (⟨"GuardedPool$Text", "append", "(C)I"⟩, prog_7_method_5_code, 2, some .int, ({ frames := 0, cells := 0, slots := 0, locals := 0 } : Room))
def mi_Poo_clearText : MI := (⟨"GuardedPool", "clearText", "()I"⟩, prog_1_method_12_code, 1, some .int, ({ frames := 1, cells := 0, slots := 0, locals := 21 } : Room))
def mi_Txt_drop : MI := (⟨"GuardedPool$Text", "drop", "()I"⟩, prog_7_method_6_code, 2, some .int, ({ frames := 0, cells := 0, slots := 0, locals := 0 } : Room))
def mi_Poo_perform : MI := (⟨"GuardedPool", "perform", "()I"⟩, prog_1_method_13_code, 5, some .int, ({ frames := 6, cells := 0, slots := 0, locals := 138 } : Room))
def mi_Txt_read : MI := (⟨"GuardedPool$Text", "read", "()I"⟩, prog_7_method_7_code, 2, some .int, ({ frames := 5, cells := 0, slots := 0, locals := 111 } : Room))
def mi_Txt_readCommand : MI := (⟨"GuardedPool$Text", "readCommand", "(LGuardedPool$Command;)V"⟩, prog_7_method_8_code, 2, none, ({ frames := 4, cells := 0, slots := 0, locals := 90 } : Room))
def mi_Txt_signHere : MI := (⟨"GuardedPool$Text", "signHere", "()C"⟩, prog_7_method_13_code, 2, some .char, ({ frames := 0, cells := 0, slots := 0, locals := 0 } : Room))
def mi_Txt_readTwoNumbers : MI := (⟨"GuardedPool$Text", "readTwoNumbers", "(LGuardedPool$Command;II)V"⟩, prog_7_method_9_code, 4, none, ({ frames := 3, cells := 0, slots := 0, locals := 67 } : Room))
def mi_Txt_readNumber : MI := (⟨"GuardedPool$Text", "readNumber", "(II)I"⟩, prog_7_method_11_code, 6, some .int, ({ frames := 2, cells := 0, slots := 0, locals := 42 } : Room))
def mi_Txt_digitHere : MI := (⟨"GuardedPool$Text", "digitHere", "()I"⟩, prog_7_method_12_code, 2, some .int, ({ frames := 1, cells := 0, slots := 0, locals := 21 } : Room))
def mi_Txt_readSign : MI := (⟨"GuardedPool$Text", "readSign", "(C)V"⟩, prog_7_method_10_code, 2, none, ({ frames := 1, cells := 0, slots := 0, locals := 21 } : Room))
def mi_Txt_commandCount : MI := (⟨"GuardedPool$Text", "commandCount", "()I"⟩, prog_7_method_3_code, 1, some .int, ({ frames := 0, cells := 0, slots := 0, locals := 0 } : Room))
def mi_Txt_commandAt : MI := (⟨"GuardedPool$Text", "commandAt", "(I)LGuardedPool$Command;"⟩, prog_7_method_4_code, 2, some (.object "GuardedPool$Command"), ({ frames := 0, cells := 0, slots := 0, locals := 0 } : Room))
def mi_Poo_answerTo : MI := (⟨"GuardedPool", "answerTo", "(LGuardedPool$Command;)I"⟩, prog_1_method_31_code, 2, some .int, ({ frames := 5, cells := 0, slots := 0, locals := 117 } : Room))
def mi_Poo_isError : MI := (⟨"GuardedPool", "isError", "(I)Z"⟩, prog_1_method_27_code, 1, some .boolean, ({ frames := 0, cells := 0, slots := 0, locals := 0 } : Room))
def mi_Poo_noteStop : MI := (⟨"GuardedPool", "noteStop", "(II)V"⟩, prog_1_method_30_code, 3, none, ({ frames := 0, cells := 0, slots := 0, locals := 0 } : Room))
def mi_Poo_stopped : MI := (⟨"GuardedPool", "stopped", "(I)I"⟩, prog_1_method_14_code, 2, some .int, ({ frames := 0, cells := 0, slots := 0, locals := 0 } : Room))
def mi_Poo_undo : MI := (⟨"GuardedPool", "undo", "()I"⟩, prog_1_method_15_code, 1, some .int, ({ frames := 3, cells := 0, slots := 0, locals := 84 } : Room))
def mi_His_takeLatest : MI := (⟨"GuardedPool$History", "takeLatest", "(LGuardedPool$State;)I"⟩, prog_4_method_4_code, 3, some .int, ({ frames := 2, cells := 0, slots := 0, locals := 62 } : Room))
def mi_Poo_keep : MI := (⟨"GuardedPool", "keep", "()I"⟩, prog_1_method_16_code, 1, some .int, ({ frames := 2, cells := 0, slots := 0, locals := 62 } : Room))
def mi_Sta_ownedBlocks : MI := (⟨"GuardedPool$State", "ownedBlocks", "()I"⟩, prog_5_method_38_code, 3, some .int, ({ frames := 1, cells := 0, slots := 0, locals := 26 } : Room))
def mi_Poo_restore : MI := (⟨"GuardedPool", "restore", "()I"⟩, prog_1_method_17_code, 1, some .int, ({ frames := 4, cells := 0, slots := 0, locals := 104 } : Room))
def mi_Poo_block : MI := (⟨"GuardedPool", "block", "(II)I"⟩, prog_1_method_18_code, 3, some .int, ({ frames := 3, cells := 0, slots := 0, locals := 68 } : Room))
def mi_Sta_tellBlock : MI := (⟨"GuardedPool$State", "tellBlock", "(II)I"⟩, prog_5_method_29_code, 4, some .int, ({ frames := 2, cells := 0, slots := 0, locals := 45 } : Room))
def mi_Poo_word : MI := (⟨"GuardedPool", "word", "(II)I"⟩, prog_1_method_19_code, 3, some .int, ({ frames := 5, cells := 0, slots := 0, locals := 109 } : Room))
def mi_Sta_tellWord : MI := (⟨"GuardedPool$State", "tellWord", "(II)I"⟩, prog_5_method_30_code, 4, some .int, ({ frames := 4, cells := 0, slots := 0, locals := 86 } : Room))
def mi_Poo_task : MI := (⟨"GuardedPool", "task", "(II)I"⟩, prog_1_method_20_code, 3, some .int, ({ frames := 4, cells := 0, slots := 0, locals := 92 } : Room))
def mi_Sta_tellTask : MI := (⟨"GuardedPool$State", "tellTask", "(II)I"⟩, prog_5_method_31_code, 4, some .int, ({ frames := 3, cells := 0, slots := 0, locals := 69 } : Room))
def mi_Sta_askedBy : MI := (⟨"GuardedPool$State", "askedBy", "(I)I"⟩, prog_5_method_44_code, 7, some .int, ({ frames := 0, cells := 0, slots := 0, locals := 0 } : Room))
def mi_Poo_reason : MI := (⟨"GuardedPool", "reason", "(II)I"⟩, prog_1_method_21_code, 3, some .int, ({ frames := 4, cells := 0, slots := 0, locals := 93 } : Room))
def mi_Poo_greatest : MI := (⟨"GuardedPool", "greatest", "(I)I"⟩, prog_1_method_22_code, 2, some .int, ({ frames := 5, cells := 0, slots := 0, locals := 115 } : Room))
def mi_Sta_greatestRequest : MI := (⟨"GuardedPool$State", "greatestRequest", "(I)I"⟩, prog_5_method_35_code, 3, some .int, ({ frames := 4, cells := 0, slots := 0, locals := 93 } : Room))
def mi_Poo_leak : MI := (⟨"GuardedPool", "leak", "(I)I"⟩, prog_1_method_23_code, 2, some .int, ({ frames := 4, cells := 0, slots := 0, locals := 95 } : Room))
def mi_Sta_leakOfRank : MI := (⟨"GuardedPool$State", "leakOfRank", "(I)I"⟩, prog_5_method_36_code, 6, some .int, ({ frames := 3, cells := 0, slots := 0, locals := 70 } : Room))
def mi_Sta_leaksAheadOf : MI := (⟨"GuardedPool$State", "leaksAheadOf", "(LGuardedPool$Block;)I"⟩, prog_5_method_37_code, 8, some .int, ({ frames := 2, cells := 0, slots := 0, locals := 43 } : Room))
def mi_Poo_refused : MI := (⟨"GuardedPool", "refused", "(I)I"⟩, prog_1_method_24_code, 2, some .int, ({ frames := 0, cells := 0, slots := 0, locals := 0 } : Room))
def mi_Poo_size : MI := (⟨"GuardedPool", "size", "(II)I"⟩, prog_1_method_25_code, 3, some .int, ({ frames := 3, cells := 0, slots := 0, locals := 70 } : Room))
def mi_Sta_tellSize : MI := (⟨"GuardedPool$State", "tellSize", "(II)I"⟩, prog_5_method_32_code, 4, some .int, ({ frames := 2, cells := 0, slots := 0, locals := 47 } : Room))
def mi_Sta_blocksOfSize : MI := (⟨"GuardedPool$State", "blocksOfSize", "(IZ)I"⟩, prog_5_method_46_code, 8, some .int, ({ frames := 1, cells := 0, slots := 0, locals := 20 } : Room))
def mi_Poo_count : MI := (⟨"GuardedPool", "count", "(I)I"⟩, prog_1_method_26_code, 2, some .int, ({ frames := 5, cells := 0, slots := 0, locals := 112 } : Room))
def mi_His_length : MI := (⟨"GuardedPool$History", "length", "()I"⟩, prog_4_method_2_code, 1, some .int, ({ frames := 0, cells := 0, slots := 0, locals := 0 } : Room))
def mi_Txt_length : MI := (⟨"GuardedPool$Text", "length", "()I"⟩, prog_7_method_2_code, 1, some .int, ({ frames := 0, cells := 0, slots := 0, locals := 0 } : Room))
def mi_Sta_tellCount : MI := (⟨"GuardedPool$State", "tellCount", "(I)I"⟩, prog_5_method_33_code, 2, some .int, ({ frames := 4, cells := 0, slots := 0, locals := 91 } : Room))
def mi_Sta_ownedWords : MI := (⟨"GuardedPool$State", "ownedWords", "()I"⟩, prog_5_method_39_code, 3, some .int, ({ frames := 3, cells := 0, slots := 0, locals := 66 } : Room))
def mi_Sta_askedWords : MI := (⟨"GuardedPool$State", "askedWords", "()I"⟩, prog_5_method_40_code, 3, some .int, ({ frames := 1, cells := 0, slots := 0, locals := 26 } : Room))
def mi_Mod_init : MI := (⟨"GuardedPoolModel", "<init>", "()V"⟩, prog_9_method_1_code, 2, none, ({ frames := 1, cells := 6, slots := 3368, locals := 20 } : Room))
def mi_Mod_ask : MI := (⟨"GuardedPoolModel", "ask", "(II)I"⟩, prog_9_method_31_code, 4, some .int, ({ frames := 4, cells := 0, slots := 0, locals := 89 } : Room))
def mi_Mod_askFault : MI := (⟨"GuardedPoolModel", "askFault", "(II)I"⟩, prog_9_method_24_code, 3, some .int, ({ frames := 3, cells := 0, slots := 0, locals := 67 } : Room))
def mi_Mod_isTask : MI := (⟨"GuardedPoolModel", "isTask", "(I)Z"⟩, prog_9_method_4_code, 1, some .boolean, ({ frames := 1, cells := 0, slots := 0, locals := 22 } : Room))
def mi_Mod_in : MI := (⟨"GuardedPoolModel", "in", "(III)Z"⟩, prog_9_method_3_code, 3, some .boolean, ({ frames := 0, cells := 0, slots := 0, locals := 0 } : Room))
def mi_Mod_why : MI := (⟨"GuardedPoolModel", "why", "(II)I"⟩, prog_9_method_17_code, 4, some .int, ({ frames := 2, cells := 0, slots := 0, locals := 44 } : Room))
def mi_Mod_sizeFor : MI := (⟨"GuardedPoolModel", "sizeFor", "(I)I"⟩, prog_9_method_15_code, 1, some .int, ({ frames := 0, cells := 0, slots := 0, locals := 0 } : Room))
def mi_Mod_wordsOf : MI := (⟨"GuardedPoolModel", "wordsOf", "(I)I"⟩, prog_9_method_16_code, 4, some .int, ({ frames := 1, cells := 0, slots := 0, locals := 21 } : Room))
def mi_Mod_isOwned : MI := (⟨"GuardedPoolModel", "isOwned", "(I)Z"⟩, prog_9_method_9_code, 2, some .boolean, ({ frames := 0, cells := 0, slots := 0, locals := 0 } : Room))
def mi_Mod_lowestFree : MI := (⟨"GuardedPoolModel", "lowestFree", "(I)I"⟩, prog_9_method_14_code, 3, some .int, ({ frames := 1, cells := 0, slots := 0, locals := 21 } : Room))
def mi_Mod_isFree : MI := (⟨"GuardedPoolModel", "isFree", "(I)Z"⟩, prog_9_method_8_code, 2, some .boolean, ({ frames := 0, cells := 0, slots := 0, locals := 0 } : Room))
def mi_Mod_know : MI := (⟨"GuardedPoolModel", "know", "()V"⟩, prog_9_method_5_code, 2, none, ({ frames := 0, cells := 0, slots := 0, locals := 0 } : Room))
def mi_Mod_asks : MI := (⟨"GuardedPoolModel", "asks", "(II)I"⟩, prog_9_method_19_code, 4, some .int, ({ frames := 3, cells := 0, slots := 0, locals := 66 } : Room))
def mi_Mod_taken : MI := (⟨"GuardedPoolModel", "taken", "(I)I"⟩, prog_9_method_18_code, 4, some .int, ({ frames := 2, cells := 0, slots := 0, locals := 43 } : Room))
def mi_Mod_giveBack : MI := (⟨"GuardedPoolModel", "giveBack", "(II)I"⟩, prog_9_method_32_code, 4, some .int, ({ frames := 3, cells := 0, slots := 0, locals := 66 } : Room))
def mi_Mod_backFault : MI := (⟨"GuardedPoolModel", "backFault", "(II)I"⟩, prog_9_method_25_code, 4, some .int, ({ frames := 2, cells := 0, slots := 0, locals := 43 } : Room))
def mi_Mod_beginOf : MI := (⟨"GuardedPoolModel", "beginOf", "(I)I"⟩, prog_9_method_10_code, 3, some .int, ({ frames := 1, cells := 0, slots := 0, locals := 21 } : Room))
def mi_Mod_frees : MI := (⟨"GuardedPoolModel", "frees", "(I)I"⟩, prog_9_method_20_code, 8, some .int, ({ frames := 1, cells := 0, slots := 0, locals := 21 } : Room))
def mi_Mod_broken : MI := (⟨"GuardedPoolModel", "broken", "(I)I"⟩, prog_9_method_13_code, 2, some .int, ({ frames := 0, cells := 0, slots := 0, locals := 0 } : Room))
def mi_Mod_write : MI := (⟨"GuardedPoolModel", "write", "(IIII)I"⟩, prog_9_method_33_code, 8, some .int, ({ frames := 2, cells := 0, slots := 0, locals := 44 } : Room))
def mi_Mod_beginAt : MI := (⟨"GuardedPoolModel", "beginAt", "(I)I"⟩, prog_9_method_11_code, 3, some .int, ({ frames := 0, cells := 0, slots := 0, locals := 0 } : Room))
def mi_Mod_isGuard : MI := (⟨"GuardedPoolModel", "isGuard", "(I)Z"⟩, prog_9_method_12_code, 3, some .boolean, ({ frames := 1, cells := 0, slots := 0, locals := 22 } : Room))
def mi_Mod_touch : MI := (⟨"GuardedPoolModel", "touch", "(I)I"⟩, prog_9_method_34_code, 3, some .int, ({ frames := 2, cells := 0, slots := 0, locals := 43 } : Room))
def mi_Mod_puts : MI := (⟨"GuardedPoolModel", "puts", "(II)I"⟩, prog_9_method_30_code, 4, some .int, ({ frames := 0, cells := 0, slots := 0, locals := 0 } : Room))
def mi_Mod_live : MI := (⟨"GuardedPoolModel", "live", "(IZ)I"⟩, prog_9_method_35_code, 3, some .int, ({ frames := 2, cells := 0, slots := 0, locals := 44 } : Room))
def mi_Mod_blocksOf : MI := (⟨"GuardedPoolModel", "blocksOf", "(I)I"⟩, prog_9_method_29_code, 4, some .int, ({ frames := 1, cells := 0, slots := 0, locals := 21 } : Room))
def mi_Mod_setLimit : MI := (⟨"GuardedPoolModel", "setLimit", "(II)I"⟩, prog_9_method_36_code, 3, some .int, ({ frames := 2, cells := 0, slots := 0, locals := 42 } : Room))
def mi_Mod_setPatience : MI := (⟨"GuardedPoolModel", "setPatience", "(I)I"⟩, prog_9_method_37_code, 2, some .int, ({ frames := 1, cells := 0, slots := 0, locals := 23 } : Room))
def mi_Mod_pass : MI := (⟨"GuardedPoolModel", "pass", "(I)I"⟩, prog_9_method_38_code, 3, some .int, ({ frames := 4, cells := 0, slots := 0, locals := 87 } : Room))
def mi_Mod_passFault : MI := (⟨"GuardedPoolModel", "passFault", "(I)I"⟩, prog_9_method_26_code, 2, some .int, ({ frames := 1, cells := 0, slots := 0, locals := 22 } : Room))
def mi_Mod_passes : MI := (⟨"GuardedPoolModel", "passes", "(I)I"⟩, prog_9_method_27_code, 3, some .int, ({ frames := 3, cells := 0, slots := 0, locals := 65 } : Room))
def mi_Mod_leaks : MI := (⟨"GuardedPoolModel", "leaks", "(I)I"⟩, prog_9_method_22_code, 4, some .int, ({ frames := 2, cells := 0, slots := 0, locals := 42 } : Room))
def mi_Mod_isLeak : MI := (⟨"GuardedPoolModel", "isLeak", "(I)Z"⟩, prog_9_method_21_code, 2, some .boolean, ({ frames := 1, cells := 0, slots := 0, locals := 21 } : Room))
def mi_Mod_sweep : MI := (⟨"GuardedPoolModel", "sweep", "()I"⟩, prog_9_method_39_code, 1, some .int, ({ frames := 3, cells := 0, slots := 0, locals := 71 } : Room))
def mi_Mod_sweeps : MI := (⟨"GuardedPoolModel", "sweeps", "()I"⟩, prog_9_method_28_code, 4, some .int, ({ frames := 2, cells := 0, slots := 0, locals := 48 } : Room))
def mi_Mod_type : MI := (⟨"GuardedPoolModel", "type", "(C)I"⟩, prog_9_method_40_code, 2, some .int, ({ frames := 0, cells := 0, slots := 0, locals := 0 } : Room))
def mi_Mod_clearText : MI := (⟨"GuardedPoolModel", "clearText", "()I"⟩, prog_9_method_41_code, 2, some .int, ({ frames := 0, cells := 0, slots := 0, locals := 0 } : Room))
def mi_Mod_perform : MI := (⟨"GuardedPoolModel", "perform", "()I"⟩, prog_9_method_47_code, 2, some .int, ({ frames := 6, cells := 0, slots := 0, locals := 136 } : Room))
def mi_Mod_go : MI := (⟨"GuardedPoolModel", "go", "(Z)I"⟩, prog_9_method_46_code, 5, some .int, ({ frames := 5, cells := 0, slots := 0, locals := 112 } : Room))
def mi_Mod_read : MI := (⟨"GuardedPoolModel", "read", "()V"⟩, prog_9_method_44_code, 4, none, ({ frames := 3, cells := 0, slots := 0, locals := 68 } : Room))
def mi_Mod_number : MI := (⟨"GuardedPoolModel", "number", "(II)I"⟩, prog_9_method_43_code, 4, some .int, ({ frames := 2, cells := 0, slots := 0, locals := 45 } : Room))
def mi_Mod_sign : MI := (⟨"GuardedPoolModel", "sign", "(II)I"⟩, prog_9_method_42_code, 4, some .int, ({ frames := 1, cells := 0, slots := 0, locals := 22 } : Room))
def mi_Mod_does : MI := (⟨"GuardedPoolModel", "does", "()I"⟩, prog_9_method_45_code, 4, some .int, ({ frames := 4, cells := 0, slots := 0, locals := 89 } : Room))
def mi_Mod_putAside : MI := (⟨"GuardedPoolModel", "putAside", "()V"⟩, prog_9_method_6_code, 2, none, ({ frames := 0, cells := 0, slots := 0, locals := 0 } : Room))
def mi_Mod_putBack : MI := (⟨"GuardedPoolModel", "putBack", "()V"⟩, prog_9_method_7_code, 2, none, ({ frames := 0, cells := 0, slots := 0, locals := 0 } : Room))
def mi_Mod_stopped : MI := (⟨"GuardedPoolModel", "stopped", "(I)I"⟩, prog_9_method_48_code, 2, some .int, ({ frames := 1, cells := 0, slots := 0, locals := 22 } : Room))
def mi_Mod_undo : MI := (⟨"GuardedPoolModel", "undo", "()I"⟩, prog_9_method_49_code, 2, some .int, ({ frames := 0, cells := 0, slots := 0, locals := 0 } : Room))
def mi_Mod_keep : MI := (⟨"GuardedPoolModel", "keep", "()I"⟩, prog_9_method_50_code, 2, some .int, ({ frames := 2, cells := 0, slots := 0, locals := 43 } : Room))
def mi_Mod_owned : MI := (⟨"GuardedPoolModel", "owned", "()I"⟩, prog_9_method_23_code, 3, some .int, ({ frames := 1, cells := 0, slots := 0, locals := 21 } : Room))
def mi_Mod_restore : MI := (⟨"GuardedPoolModel", "restore", "()I"⟩, prog_9_method_51_code, 2, some .int, ({ frames := 2, cells := 0, slots := 0, locals := 43 } : Room))
def mi_Mod_block : MI := (⟨"GuardedPoolModel", "block", "(II)I"⟩, prog_9_method_53_code, 4, some .int, ({ frames := 2, cells := 0, slots := 0, locals := 43 } : Room))
def mi_Mod_sizeNumber : MI := (⟨"GuardedPoolModel", "sizeNumber", "(I)I"⟩, prog_9_method_52_code, 1, some .int, ({ frames := 0, cells := 0, slots := 0, locals := 0 } : Room))
def mi_Mod_word : MI := (⟨"GuardedPoolModel", "word", "(II)I"⟩, prog_9_method_54_code, 4, some .int, ({ frames := 2, cells := 0, slots := 0, locals := 44 } : Room))
def mi_Mod_task : MI := (⟨"GuardedPoolModel", "task", "(II)I"⟩, prog_9_method_56_code, 3, some .int, ({ frames := 3, cells := 0, slots := 0, locals := 65 } : Room))
def mi_Mod_asked : MI := (⟨"GuardedPoolModel", "asked", "(I)I"⟩, prog_9_method_55_code, 4, some .int, ({ frames := 1, cells := 0, slots := 0, locals := 21 } : Room))
def mi_Mod_reason : MI := (⟨"GuardedPoolModel", "reason", "(II)I"⟩, prog_9_method_57_code, 3, some .int, ({ frames := 3, cells := 0, slots := 0, locals := 67 } : Room))
def mi_Mod_greatest : MI := (⟨"GuardedPoolModel", "greatest", "(I)I"⟩, prog_9_method_58_code, 3, some .int, ({ frames := 3, cells := 0, slots := 0, locals := 67 } : Room))
def mi_Mod_leak : MI := (⟨"GuardedPoolModel", "leak", "(I)I"⟩, prog_9_method_60_code, 3, some .int, ({ frames := 3, cells := 0, slots := 0, locals := 66 } : Room))
def mi_Mod_ahead : MI := (⟨"GuardedPoolModel", "ahead", "(I)I"⟩, prog_9_method_59_code, 5, some .int, ({ frames := 2, cells := 0, slots := 0, locals := 42 } : Room))
def mi_Mod_refused : MI := (⟨"GuardedPoolModel", "refused", "(I)I"⟩, prog_9_method_61_code, 2, some .int, ({ frames := 1, cells := 0, slots := 0, locals := 22 } : Room))
def mi_Mod_size : MI := (⟨"GuardedPoolModel", "size", "(II)I"⟩, prog_9_method_62_code, 5, some .int, ({ frames := 2, cells := 0, slots := 0, locals := 43 } : Room))
def mi_Mod_count : MI := (⟨"GuardedPoolModel", "count", "(I)I"⟩, prog_9_method_64_code, 2, some .int, ({ frames := 3, cells := 0, slots := 0, locals := 65 } : Room))
def mi_Mod_freeWords : MI := (⟨"GuardedPoolModel", "freeWords", "()I"⟩, prog_9_method_63_code, 3, some .int, ({ frames := 1, cells := 0, slots := 0, locals := 21 } : Room))
def mi_Law_law : MI := (x, code, maxLocals, ret, room_1)
/-- what a method needs to be called: its code, its class begun, its parameters -/
def mOK (y : MI) (n : Nat) : Prop := Cond.code (mnm y) (mbc y) (mml y) (mrt y) ∈ lw_g ∧ plainName (mnm y).cls = true ∧ (mnm y).cls ≠ "java/lang/invoke/MethodHandle" ∧ (mnm y).cls ≠ "java/lang/invoke/VarHandle" ∧ Cond.initialized (mnm y).cls ∈ lw_g ∧ (parseMethodDescriptor (mnm y).desc).map (fun d => d.parameters.length) = some n
def mVirt (y : MI) : Prop := Cond.instanceMethod (mnm y) ∈ lw_g ∧ Cond.selects (mnm y).cls (mnm y) (mnm y) ∈ lw_g
theorem ok_Poo_init : mOK mi_Poo_init 0 := ⟨in_tbl 15 (by decide +kernel), by decide +kernel, by decide +kernel, by decide +kernel, ini_Poo, by decide +kernel⟩
theorem in_Poo_init : Cond.instanceMethod (mnm mi_Poo_init) ∈ lw_g := in_tbl 14 (by decide +kernel)
theorem ok_Sta_init : mOK mi_Sta_init 0 := ⟨in_tbl 23 (by decide +kernel), by decide +kernel, by decide +kernel, by decide +kernel, ini_Sta, by decide +kernel⟩
theorem in_Sta_init : Cond.instanceMethod (mnm mi_Sta_init) ∈ lw_g := in_tbl 22 (by decide +kernel)
theorem ok_Blk_init : mOK mi_Blk_init 2 := ⟨in_tbl 30 (by decide +kernel), by decide +kernel, by decide +kernel, by decide +kernel, ini_Blk, by decide +kernel⟩
theorem in_Blk_init : Cond.instanceMethod (mnm mi_Blk_init) ∈ lw_g := in_tbl 29 (by decide +kernel)
theorem ok_Tsk_init : mOK mi_Tsk_init 0 := ⟨in_tbl 62 (by decide +kernel), by decide +kernel, by decide +kernel, by decide +kernel, ini_Tsk, by decide +kernel⟩
theorem in_Tsk_init : Cond.instanceMethod (mnm mi_Tsk_init) ∈ lw_g := in_tbl 61 (by decide +kernel)
theorem ok_His_init : mOK mi_His_init 0 := ⟨in_tbl 110 (by decide +kernel), by decide +kernel, by decide +kernel, by decide +kernel, ini_His, by decide +kernel⟩
theorem in_His_init : Cond.instanceMethod (mnm mi_His_init) ∈ lw_g := in_tbl 109 (by decide +kernel)
theorem ok_Txt_init : mOK mi_Txt_init 0 := ⟨in_tbl 129 (by decide +kernel), by decide +kernel, by decide +kernel, by decide +kernel, ini_Txt, by decide +kernel⟩
theorem in_Txt_init : Cond.instanceMethod (mnm mi_Txt_init) ∈ lw_g := in_tbl 128 (by decide +kernel)
theorem ok_Cmd_init : mOK mi_Cmd_init 0 := ⟨in_tbl 136 (by decide +kernel), by decide +kernel, by decide +kernel, by decide +kernel, ini_Cmd, by decide +kernel⟩
theorem in_Cmd_init : Cond.instanceMethod (mnm mi_Cmd_init) ∈ lw_g := in_tbl 135 (by decide +kernel)
theorem ok_Poo_ask : mOK mi_Poo_ask 2 := ⟨in_tbl 205 (by decide +kernel), by decide +kernel, by decide +kernel, by decide +kernel, ini_Poo, by decide +kernel⟩
theorem vi_Poo_ask : mVirt mi_Poo_ask := ⟨in_tbl 203 (by decide +kernel), in_tbl 204 (by decide +kernel)⟩
theorem ok_Sta_copyFrom : mOK mi_Sta_copyFrom 1 := ⟨in_tbl 209 (by decide +kernel), by decide +kernel, by decide +kernel, by decide +kernel, ini_Sta, by decide +kernel⟩
theorem vi_Sta_copyFrom : mVirt mi_Sta_copyFrom := ⟨in_tbl 207 (by decide +kernel), in_tbl 208 (by decide +kernel)⟩
theorem ok_Blk_copyFrom : mOK mi_Blk_copyFrom 1 := ⟨in_tbl 213 (by decide +kernel), by decide +kernel, by decide +kernel, by decide +kernel, ini_Blk, by decide +kernel⟩
theorem vi_Blk_copyFrom : mVirt mi_Blk_copyFrom := ⟨in_tbl 211 (by decide +kernel), in_tbl 212 (by decide +kernel)⟩
theorem ok_Tsk_copyFrom : mOK mi_Tsk_copyFrom 1 := ⟨in_tbl 220 (by decide +kernel), by decide +kernel, by decide +kernel, by decide +kernel, ini_Tsk, by decide +kernel⟩
theorem vi_Tsk_copyFrom : mVirt mi_Tsk_copyFrom := ⟨in_tbl 218 (by decide +kernel), in_tbl 219 (by decide +kernel)⟩
theorem ok_Sta_grant : mOK mi_Sta_grant 2 := ⟨in_tbl 224 (by decide +kernel), by decide +kernel, by decide +kernel, by decide +kernel, ini_Sta, by decide +kernel⟩
theorem vi_Sta_grant : mVirt mi_Sta_grant := ⟨in_tbl 222 (by decide +kernel), in_tbl 223 (by decide +kernel)⟩
theorem ok_Sta_whyNot : mOK mi_Sta_whyNot 2 := ⟨in_tbl 228 (by decide +kernel), by decide +kernel, by decide +kernel, by decide +kernel, ini_Sta, by decide +kernel⟩
theorem vi_Sta_whyNot : mVirt mi_Sta_whyNot := ⟨in_tbl 226 (by decide +kernel), in_tbl 227 (by decide +kernel)⟩
theorem ok_Sta_taskOf : mOK mi_Sta_taskOf 1 := ⟨in_tbl 232 (by decide +kernel), by decide +kernel, by decide +kernel, by decide +kernel, ini_Sta, by decide +kernel⟩
theorem vi_Sta_taskOf : mVirt mi_Sta_taskOf := ⟨in_tbl 231 (by decide +kernel), in_sel 0 (by decide +kernel)⟩
theorem ok_Sta_sizeFor : mOK mi_Sta_sizeFor 1 := ⟨in_tbl 235 (by decide +kernel), by decide +kernel, by decide +kernel, by decide +kernel, ini_Sta, by decide +kernel⟩
theorem st_Sta_sizeFor : Cond.static (mnm mi_Sta_sizeFor) ∈ lw_g := in_tbl 234 (by decide +kernel)
theorem ok_Blk_wordsOf : mOK mi_Blk_wordsOf 1 := ⟨in_tbl 238 (by decide +kernel), by decide +kernel, by decide +kernel, by decide +kernel, ini_Blk, by decide +kernel⟩
theorem st_Blk_wordsOf : Cond.static (mnm mi_Blk_wordsOf) ∈ lw_g := in_tbl 237 (by decide +kernel)
theorem ok_Sta_wordsOf : mOK mi_Sta_wordsOf 1 := ⟨in_tbl 242 (by decide +kernel), by decide +kernel, by decide +kernel, by decide +kernel, ini_Sta, by decide +kernel⟩
theorem vi_Sta_wordsOf : mVirt mi_Sta_wordsOf := ⟨in_tbl 241 (by decide +kernel), in_sel 1 (by decide +kernel)⟩
theorem ok_Blk_words : mOK mi_Blk_words 0 := ⟨in_tbl 246 (by decide +kernel), by decide +kernel, by decide +kernel, by decide +kernel, ini_Blk, by decide +kernel⟩
theorem vi_Blk_words : mVirt mi_Blk_words := ⟨in_tbl 244 (by decide +kernel), in_tbl 245 (by decide +kernel)⟩
theorem ok_Sta_roomFor : mOK mi_Sta_roomFor 1 := ⟨in_tbl 251 (by decide +kernel), by decide +kernel, by decide +kernel, by decide +kernel, ini_Sta, by decide +kernel⟩
theorem vi_Sta_roomFor : mVirt mi_Sta_roomFor := ⟨in_tbl 250 (by decide +kernel), in_sel 2 (by decide +kernel)⟩
theorem ok_Sta_lowestFree : mOK mi_Sta_lowestFree 1 := ⟨in_tbl 255 (by decide +kernel), by decide +kernel, by decide +kernel, by decide +kernel, ini_Sta, by decide +kernel⟩
theorem vi_Sta_lowestFree : mVirt mi_Sta_lowestFree := ⟨in_tbl 254 (by decide +kernel), in_sel 3 (by decide +kernel)⟩
theorem ok_Blk_isFreeOf : mOK mi_Blk_isFreeOf 1 := ⟨in_tbl 259 (by decide +kernel), by decide +kernel, by decide +kernel, by decide +kernel, ini_Blk, by decide +kernel⟩
theorem vi_Blk_isFreeOf : mVirt mi_Blk_isFreeOf := ⟨in_tbl 257 (by decide +kernel), in_tbl 258 (by decide +kernel)⟩
theorem ok_Sta_cutOut : mOK mi_Sta_cutOut 1 := ⟨in_tbl 263 (by decide +kernel), by decide +kernel, by decide +kernel, by decide +kernel, ini_Sta, by decide +kernel⟩
theorem vi_Sta_cutOut : mVirt mi_Sta_cutOut := ⟨in_tbl 262 (by decide +kernel), in_sel 4 (by decide +kernel)⟩
theorem ok_Sta_halve : mOK mi_Sta_halve 1 := ⟨in_tbl 267 (by decide +kernel), by decide +kernel, by decide +kernel, by decide +kernel, ini_Sta, by decide +kernel⟩
theorem vi_Sta_halve : mVirt mi_Sta_halve := ⟨in_tbl 266 (by decide +kernel), in_sel 5 (by decide +kernel)⟩
theorem ok_Sta_placeAt : mOK mi_Sta_placeAt 1 := ⟨in_tbl 271 (by decide +kernel), by decide +kernel, by decide +kernel, by decide +kernel, ini_Sta, by decide +kernel⟩
theorem vi_Sta_placeAt : mVirt mi_Sta_placeAt := ⟨in_tbl 270 (by decide +kernel), in_sel 6 (by decide +kernel)⟩
theorem ok_Poo_countRefusal : mOK mi_Poo_countRefusal 1 := ⟨in_tbl 276 (by decide +kernel), by decide +kernel, by decide +kernel, by decide +kernel, ini_Poo, by decide +kernel⟩
theorem vi_Poo_countRefusal : mVirt mi_Poo_countRefusal := ⟨in_tbl 275 (by decide +kernel), in_sel 7 (by decide +kernel)⟩
theorem ok_Poo_recorded : mOK mi_Poo_recorded 1 := ⟨in_tbl 280 (by decide +kernel), by decide +kernel, by decide +kernel, by decide +kernel, ini_Poo, by decide +kernel⟩
theorem vi_Poo_recorded : mVirt mi_Poo_recorded := ⟨in_tbl 279 (by decide +kernel), in_sel 8 (by decide +kernel)⟩
theorem ok_His_record : mOK mi_His_record 1 := ⟨in_tbl 284 (by decide +kernel), by decide +kernel, by decide +kernel, by decide +kernel, ini_His, by decide +kernel⟩
theorem vi_His_record : mVirt mi_His_record := ⟨in_tbl 282 (by decide +kernel), in_tbl 283 (by decide +kernel)⟩
theorem ok_Poo_giveBack : mOK mi_Poo_giveBack 2 := ⟨in_tbl 292 (by decide +kernel), by decide +kernel, by decide +kernel, by decide +kernel, ini_Poo, by decide +kernel⟩
theorem vi_Poo_giveBack : mVirt mi_Poo_giveBack := ⟨in_tbl 290 (by decide +kernel), in_tbl 291 (by decide +kernel)⟩
theorem ok_Sta_takeBack : mOK mi_Sta_takeBack 2 := ⟨in_tbl 296 (by decide +kernel), by decide +kernel, by decide +kernel, by decide +kernel, ini_Sta, by decide +kernel⟩
theorem vi_Sta_takeBack : mVirt mi_Sta_takeBack := ⟨in_tbl 294 (by decide +kernel), in_tbl 295 (by decide +kernel)⟩
theorem ok_Sta_blockOf : mOK mi_Sta_blockOf 1 := ⟨in_tbl 300 (by decide +kernel), by decide +kernel, by decide +kernel, by decide +kernel, ini_Sta, by decide +kernel⟩
theorem vi_Sta_blockOf : mVirt mi_Sta_blockOf := ⟨in_tbl 299 (by decide +kernel), in_sel 9 (by decide +kernel)⟩
theorem ok_Blk_isOwned : mOK mi_Blk_isOwned 0 := ⟨in_tbl 304 (by decide +kernel), by decide +kernel, by decide +kernel, by decide +kernel, ini_Blk, by decide +kernel⟩
theorem vi_Blk_isOwned : mVirt mi_Blk_isOwned := ⟨in_tbl 302 (by decide +kernel), in_tbl 303 (by decide +kernel)⟩
theorem ok_Sta_free : mOK mi_Sta_free 1 := ⟨in_tbl 308 (by decide +kernel), by decide +kernel, by decide +kernel, by decide +kernel, ini_Sta, by decide +kernel⟩
theorem vi_Sta_free : mVirt mi_Sta_free := ⟨in_tbl 307 (by decide +kernel), in_sel 10 (by decide +kernel)⟩
theorem ok_Sta_brokenGuards : mOK mi_Sta_brokenGuards 1 := ⟨in_tbl 312 (by decide +kernel), by decide +kernel, by decide +kernel, by decide +kernel, ini_Sta, by decide +kernel⟩
theorem vi_Sta_brokenGuards : mVirt mi_Sta_brokenGuards := ⟨in_tbl 311 (by decide +kernel), in_sel 11 (by decide +kernel)⟩
theorem ok_Sta_valueAt : mOK mi_Sta_valueAt 1 := ⟨in_tbl 316 (by decide +kernel), by decide +kernel, by decide +kernel, by decide +kernel, ini_Sta, by decide +kernel⟩
theorem vi_Sta_valueAt : mVirt mi_Sta_valueAt := ⟨in_tbl 315 (by decide +kernel), in_sel 12 (by decide +kernel)⟩
theorem ok_Blk_rearGuard : mOK mi_Blk_rearGuard 0 := ⟨in_tbl 320 (by decide +kernel), by decide +kernel, by decide +kernel, by decide +kernel, ini_Blk, by decide +kernel⟩
theorem vi_Blk_rearGuard : mVirt mi_Blk_rearGuard := ⟨in_tbl 318 (by decide +kernel), in_tbl 319 (by decide +kernel)⟩
theorem ok_Sta_setValue : mOK mi_Sta_setValue 2 := ⟨in_tbl 324 (by decide +kernel), by decide +kernel, by decide +kernel, by decide +kernel, ini_Sta, by decide +kernel⟩
theorem vi_Sta_setValue : mVirt mi_Sta_setValue := ⟨in_tbl 323 (by decide +kernel), in_sel 13 (by decide +kernel)⟩
theorem ok_Sta_joinTwins : mOK mi_Sta_joinTwins 1 := ⟨in_tbl 328 (by decide +kernel), by decide +kernel, by decide +kernel, by decide +kernel, ini_Sta, by decide +kernel⟩
theorem vi_Sta_joinTwins : mVirt mi_Sta_joinTwins := ⟨in_tbl 327 (by decide +kernel), in_sel 14 (by decide +kernel)⟩
theorem ok_Poo_write : mOK mi_Poo_write 4 := ⟨in_tbl 332 (by decide +kernel), by decide +kernel, by decide +kernel, by decide +kernel, ini_Poo, by decide +kernel⟩
theorem vi_Poo_write : mVirt mi_Poo_write := ⟨in_tbl 330 (by decide +kernel), in_tbl 331 (by decide +kernel)⟩
theorem ok_Sta_put : mOK mi_Sta_put 4 := ⟨in_tbl 336 (by decide +kernel), by decide +kernel, by decide +kernel, by decide +kernel, ini_Sta, by decide +kernel⟩
theorem vi_Sta_put : mVirt mi_Sta_put := ⟨in_tbl 334 (by decide +kernel), in_tbl 335 (by decide +kernel)⟩
theorem ok_Sta_blockAt : mOK mi_Sta_blockAt 1 := ⟨in_tbl 340 (by decide +kernel), by decide +kernel, by decide +kernel, by decide +kernel, ini_Sta, by decide +kernel⟩
theorem vi_Sta_blockAt : mVirt mi_Sta_blockAt := ⟨in_tbl 339 (by decide +kernel), in_sel 15 (by decide +kernel)⟩
theorem ok_Blk_holds : mOK mi_Blk_holds 1 := ⟨in_tbl 344 (by decide +kernel), by decide +kernel, by decide +kernel, by decide +kernel, ini_Blk, by decide +kernel⟩
theorem vi_Blk_holds : mVirt mi_Blk_holds := ⟨in_tbl 342 (by decide +kernel), in_tbl 343 (by decide +kernel)⟩
theorem ok_Sta_kindOfHit : mOK mi_Sta_kindOfHit 3 := ⟨in_tbl 348 (by decide +kernel), by decide +kernel, by decide +kernel, by decide +kernel, ini_Sta, by decide +kernel⟩
theorem st_Sta_kindOfHit : Cond.static (mnm mi_Sta_kindOfHit) ∈ lw_g := in_tbl 347 (by decide +kernel)
theorem ok_Blk_hasGuardAt : mOK mi_Blk_hasGuardAt 1 := ⟨in_tbl 352 (by decide +kernel), by decide +kernel, by decide +kernel, by decide +kernel, ini_Blk, by decide +kernel⟩
theorem vi_Blk_hasGuardAt : mVirt mi_Blk_hasGuardAt := ⟨in_tbl 350 (by decide +kernel), in_tbl 351 (by decide +kernel)⟩
theorem ok_Blk_wasAskedFor : mOK mi_Blk_wasAskedFor 1 := ⟨in_tbl 358 (by decide +kernel), by decide +kernel, by decide +kernel, by decide +kernel, ini_Blk, by decide +kernel⟩
theorem vi_Blk_wasAskedFor : mVirt mi_Blk_wasAskedFor := ⟨in_tbl 356 (by decide +kernel), in_tbl 357 (by decide +kernel)⟩
theorem ok_Poo_touch : mOK mi_Poo_touch 1 := ⟨in_tbl 362 (by decide +kernel), by decide +kernel, by decide +kernel, by decide +kernel, ini_Poo, by decide +kernel⟩
theorem vi_Poo_touch : mVirt mi_Poo_touch := ⟨in_tbl 360 (by decide +kernel), in_tbl 361 (by decide +kernel)⟩
theorem ok_Sta_useNow : mOK mi_Sta_useNow 1 := ⟨in_tbl 366 (by decide +kernel), by decide +kernel, by decide +kernel, by decide +kernel, ini_Sta, by decide +kernel⟩
theorem vi_Sta_useNow : mVirt mi_Sta_useNow := ⟨in_tbl 364 (by decide +kernel), in_tbl 365 (by decide +kernel)⟩
theorem ok_Sta_ageOf : mOK mi_Sta_ageOf 1 := ⟨in_tbl 370 (by decide +kernel), by decide +kernel, by decide +kernel, by decide +kernel, ini_Sta, by decide +kernel⟩
theorem vi_Sta_ageOf : mVirt mi_Sta_ageOf := ⟨in_tbl 369 (by decide +kernel), in_sel 16 (by decide +kernel)⟩
theorem ok_Poo_live : mOK mi_Poo_live 2 := ⟨in_tbl 374 (by decide +kernel), by decide +kernel, by decide +kernel, by decide +kernel, ini_Poo, by decide +kernel⟩
theorem vi_Poo_live : mVirt mi_Poo_live := ⟨in_tbl 372 (by decide +kernel), in_tbl 373 (by decide +kernel)⟩
theorem ok_Sta_makeAlive : mOK mi_Sta_makeAlive 2 := ⟨in_tbl 378 (by decide +kernel), by decide +kernel, by decide +kernel, by decide +kernel, ini_Sta, by decide +kernel⟩
theorem vi_Sta_makeAlive : mVirt mi_Sta_makeAlive := ⟨in_tbl 376 (by decide +kernel), in_tbl 377 (by decide +kernel)⟩
theorem ok_Sta_blocksOf : mOK mi_Sta_blocksOf 1 := ⟨in_tbl 382 (by decide +kernel), by decide +kernel, by decide +kernel, by decide +kernel, ini_Sta, by decide +kernel⟩
theorem vi_Sta_blocksOf : mVirt mi_Sta_blocksOf := ⟨in_tbl 381 (by decide +kernel), in_sel 17 (by decide +kernel)⟩
theorem ok_Poo_setLimit : mOK mi_Poo_setLimit 2 := ⟨in_tbl 386 (by decide +kernel), by decide +kernel, by decide +kernel, by decide +kernel, ini_Poo, by decide +kernel⟩
theorem vi_Poo_setLimit : mVirt mi_Poo_setLimit := ⟨in_tbl 384 (by decide +kernel), in_tbl 385 (by decide +kernel)⟩
theorem ok_Sta_changeLimit : mOK mi_Sta_changeLimit 2 := ⟨in_tbl 390 (by decide +kernel), by decide +kernel, by decide +kernel, by decide +kernel, ini_Sta, by decide +kernel⟩
theorem vi_Sta_changeLimit : mVirt mi_Sta_changeLimit := ⟨in_tbl 388 (by decide +kernel), in_tbl 389 (by decide +kernel)⟩
theorem ok_Poo_setPatience : mOK mi_Poo_setPatience 1 := ⟨in_tbl 394 (by decide +kernel), by decide +kernel, by decide +kernel, by decide +kernel, ini_Poo, by decide +kernel⟩
theorem vi_Poo_setPatience : mVirt mi_Poo_setPatience := ⟨in_tbl 392 (by decide +kernel), in_tbl 393 (by decide +kernel)⟩
theorem ok_Sta_changePatience : mOK mi_Sta_changePatience 1 := ⟨in_tbl 398 (by decide +kernel), by decide +kernel, by decide +kernel, by decide +kernel, ini_Sta, by decide +kernel⟩
theorem vi_Sta_changePatience : mVirt mi_Sta_changePatience := ⟨in_tbl 396 (by decide +kernel), in_tbl 397 (by decide +kernel)⟩
theorem ok_Poo_pass : mOK mi_Poo_pass 1 := ⟨in_tbl 402 (by decide +kernel), by decide +kernel, by decide +kernel, by decide +kernel, ini_Poo, by decide +kernel⟩
theorem vi_Poo_pass : mVirt mi_Poo_pass := ⟨in_tbl 400 (by decide +kernel), in_tbl 401 (by decide +kernel)⟩
theorem ok_Sta_advance : mOK mi_Sta_advance 1 := ⟨in_tbl 406 (by decide +kernel), by decide +kernel, by decide +kernel, by decide +kernel, ini_Sta, by decide +kernel⟩
theorem vi_Sta_advance : mVirt mi_Sta_advance := ⟨in_tbl 404 (by decide +kernel), in_tbl 405 (by decide +kernel)⟩
theorem ok_Sta_leaks : mOK mi_Sta_leaks 0 := ⟨in_tbl 410 (by decide +kernel), by decide +kernel, by decide +kernel, by decide +kernel, ini_Sta, by decide +kernel⟩
theorem vi_Sta_leaks : mVirt mi_Sta_leaks := ⟨in_tbl 409 (by decide +kernel), in_sel 18 (by decide +kernel)⟩
theorem ok_Sta_leaksOf : mOK mi_Sta_leaksOf 1 := ⟨in_tbl 414 (by decide +kernel), by decide +kernel, by decide +kernel, by decide +kernel, ini_Sta, by decide +kernel⟩
theorem vi_Sta_leaksOf : mVirt mi_Sta_leaksOf := ⟨in_tbl 413 (by decide +kernel), in_sel 19 (by decide +kernel)⟩
theorem ok_Sta_isLeak : mOK mi_Sta_isLeak 1 := ⟨in_tbl 418 (by decide +kernel), by decide +kernel, by decide +kernel, by decide +kernel, ini_Sta, by decide +kernel⟩
theorem vi_Sta_isLeak : mVirt mi_Sta_isLeak := ⟨in_tbl 417 (by decide +kernel), in_sel 20 (by decide +kernel)⟩
theorem ok_Poo_sweep : mOK mi_Poo_sweep 0 := ⟨in_tbl 422 (by decide +kernel), by decide +kernel, by decide +kernel, by decide +kernel, ini_Poo, by decide +kernel⟩
theorem vi_Poo_sweep : mVirt mi_Poo_sweep := ⟨in_tbl 420 (by decide +kernel), in_tbl 421 (by decide +kernel)⟩
theorem ok_Sta_takeLeaksBack : mOK mi_Sta_takeLeaksBack 0 := ⟨in_tbl 426 (by decide +kernel), by decide +kernel, by decide +kernel, by decide +kernel, ini_Sta, by decide +kernel⟩
theorem vi_Sta_takeLeaksBack : mVirt mi_Sta_takeLeaksBack := ⟨in_tbl 424 (by decide +kernel), in_tbl 425 (by decide +kernel)⟩
theorem ok_Poo_type : mOK mi_Poo_type 1 := ⟨in_tbl 430 (by decide +kernel), by decide +kernel, by decide +kernel, by decide +kernel, ini_Poo, by decide +kernel⟩
theorem vi_Poo_type : mVirt mi_Poo_type := ⟨in_tbl 428 (by decide +kernel), in_tbl 429 (by decide +kernel)⟩
theorem ok_Txt_append : mOK mi_Txt_append 1 := ⟨in_tbl 434 (by decide +kernel), by decide +kernel, by decide +kernel, by decide +kernel, ini_Txt, by decide +kernel⟩
theorem vi_Txt_append : mVirt mi_Txt_append := ⟨in_tbl 432 (by decide +kernel), in_tbl 433 (by decide +kernel)⟩
theorem ok_Poo_clearText : mOK mi_Poo_clearText 0 := ⟨in_tbl 438 (by decide +kernel), by decide +kernel, by decide +kernel, by decide +kernel, ini_Poo, by decide +kernel⟩
theorem vi_Poo_clearText : mVirt mi_Poo_clearText := ⟨in_tbl 436 (by decide +kernel), in_tbl 437 (by decide +kernel)⟩
theorem ok_Txt_drop : mOK mi_Txt_drop 0 := ⟨in_tbl 442 (by decide +kernel), by decide +kernel, by decide +kernel, by decide +kernel, ini_Txt, by decide +kernel⟩
theorem vi_Txt_drop : mVirt mi_Txt_drop := ⟨in_tbl 440 (by decide +kernel), in_tbl 441 (by decide +kernel)⟩
theorem ok_Poo_perform : mOK mi_Poo_perform 0 := ⟨in_tbl 446 (by decide +kernel), by decide +kernel, by decide +kernel, by decide +kernel, ini_Poo, by decide +kernel⟩
theorem vi_Poo_perform : mVirt mi_Poo_perform := ⟨in_tbl 444 (by decide +kernel), in_tbl 445 (by decide +kernel)⟩
theorem ok_Txt_read : mOK mi_Txt_read 0 := ⟨in_tbl 450 (by decide +kernel), by decide +kernel, by decide +kernel, by decide +kernel, ini_Txt, by decide +kernel⟩
theorem vi_Txt_read : mVirt mi_Txt_read := ⟨in_tbl 448 (by decide +kernel), in_tbl 449 (by decide +kernel)⟩
theorem ok_Txt_readCommand : mOK mi_Txt_readCommand 1 := ⟨in_tbl 454 (by decide +kernel), by decide +kernel, by decide +kernel, by decide +kernel, ini_Txt, by decide +kernel⟩
theorem vi_Txt_readCommand : mVirt mi_Txt_readCommand := ⟨in_tbl 453 (by decide +kernel), in_sel 21 (by decide +kernel)⟩
theorem ok_Txt_signHere : mOK mi_Txt_signHere 0 := ⟨in_tbl 458 (by decide +kernel), by decide +kernel, by decide +kernel, by decide +kernel, ini_Txt, by decide +kernel⟩
theorem vi_Txt_signHere : mVirt mi_Txt_signHere := ⟨in_tbl 457 (by decide +kernel), in_sel 22 (by decide +kernel)⟩
theorem ok_Txt_readTwoNumbers : mOK mi_Txt_readTwoNumbers 3 := ⟨in_tbl 462 (by decide +kernel), by decide +kernel, by decide +kernel, by decide +kernel, ini_Txt, by decide +kernel⟩
theorem vi_Txt_readTwoNumbers : mVirt mi_Txt_readTwoNumbers := ⟨in_tbl 461 (by decide +kernel), in_sel 23 (by decide +kernel)⟩
theorem ok_Txt_readNumber : mOK mi_Txt_readNumber 2 := ⟨in_tbl 466 (by decide +kernel), by decide +kernel, by decide +kernel, by decide +kernel, ini_Txt, by decide +kernel⟩
theorem vi_Txt_readNumber : mVirt mi_Txt_readNumber := ⟨in_tbl 465 (by decide +kernel), in_sel 24 (by decide +kernel)⟩
theorem ok_Txt_digitHere : mOK mi_Txt_digitHere 0 := ⟨in_tbl 470 (by decide +kernel), by decide +kernel, by decide +kernel, by decide +kernel, ini_Txt, by decide +kernel⟩
theorem vi_Txt_digitHere : mVirt mi_Txt_digitHere := ⟨in_tbl 469 (by decide +kernel), in_sel 25 (by decide +kernel)⟩
theorem ok_Txt_readSign : mOK mi_Txt_readSign 1 := ⟨in_tbl 474 (by decide +kernel), by decide +kernel, by decide +kernel, by decide +kernel, ini_Txt, by decide +kernel⟩
theorem vi_Txt_readSign : mVirt mi_Txt_readSign := ⟨in_tbl 473 (by decide +kernel), in_sel 26 (by decide +kernel)⟩
theorem ok_Txt_commandCount : mOK mi_Txt_commandCount 0 := ⟨in_tbl 478 (by decide +kernel), by decide +kernel, by decide +kernel, by decide +kernel, ini_Txt, by decide +kernel⟩
theorem vi_Txt_commandCount : mVirt mi_Txt_commandCount := ⟨in_tbl 476 (by decide +kernel), in_tbl 477 (by decide +kernel)⟩
theorem ok_Txt_commandAt : mOK mi_Txt_commandAt 1 := ⟨in_tbl 482 (by decide +kernel), by decide +kernel, by decide +kernel, by decide +kernel, ini_Txt, by decide +kernel⟩
theorem vi_Txt_commandAt : mVirt mi_Txt_commandAt := ⟨in_tbl 480 (by decide +kernel), in_tbl 481 (by decide +kernel)⟩
theorem ok_Poo_answerTo : mOK mi_Poo_answerTo 1 := ⟨in_tbl 486 (by decide +kernel), by decide +kernel, by decide +kernel, by decide +kernel, ini_Poo, by decide +kernel⟩
theorem vi_Poo_answerTo : mVirt mi_Poo_answerTo := ⟨in_tbl 485 (by decide +kernel), in_sel 27 (by decide +kernel)⟩
theorem ok_Poo_isError : mOK mi_Poo_isError 1 := ⟨in_tbl 489 (by decide +kernel), by decide +kernel, by decide +kernel, by decide +kernel, ini_Poo, by decide +kernel⟩
theorem st_Poo_isError : Cond.static (mnm mi_Poo_isError) ∈ lw_g := in_tbl 488 (by decide +kernel)
theorem ok_Poo_noteStop : mOK mi_Poo_noteStop 2 := ⟨in_tbl 493 (by decide +kernel), by decide +kernel, by decide +kernel, by decide +kernel, ini_Poo, by decide +kernel⟩
theorem vi_Poo_noteStop : mVirt mi_Poo_noteStop := ⟨in_tbl 492 (by decide +kernel), in_sel 28 (by decide +kernel)⟩
theorem ok_Poo_stopped : mOK mi_Poo_stopped 1 := ⟨in_tbl 497 (by decide +kernel), by decide +kernel, by decide +kernel, by decide +kernel, ini_Poo, by decide +kernel⟩
theorem vi_Poo_stopped : mVirt mi_Poo_stopped := ⟨in_tbl 495 (by decide +kernel), in_tbl 496 (by decide +kernel)⟩
theorem ok_Poo_undo : mOK mi_Poo_undo 0 := ⟨in_tbl 501 (by decide +kernel), by decide +kernel, by decide +kernel, by decide +kernel, ini_Poo, by decide +kernel⟩
theorem vi_Poo_undo : mVirt mi_Poo_undo := ⟨in_tbl 499 (by decide +kernel), in_tbl 500 (by decide +kernel)⟩
theorem ok_His_takeLatest : mOK mi_His_takeLatest 1 := ⟨in_tbl 505 (by decide +kernel), by decide +kernel, by decide +kernel, by decide +kernel, ini_His, by decide +kernel⟩
theorem vi_His_takeLatest : mVirt mi_His_takeLatest := ⟨in_tbl 503 (by decide +kernel), in_tbl 504 (by decide +kernel)⟩
theorem ok_Poo_keep : mOK mi_Poo_keep 0 := ⟨in_tbl 509 (by decide +kernel), by decide +kernel, by decide +kernel, by decide +kernel, ini_Poo, by decide +kernel⟩
theorem vi_Poo_keep : mVirt mi_Poo_keep := ⟨in_tbl 507 (by decide +kernel), in_tbl 508 (by decide +kernel)⟩
theorem ok_Sta_ownedBlocks : mOK mi_Sta_ownedBlocks 0 := ⟨in_tbl 513 (by decide +kernel), by decide +kernel, by decide +kernel, by decide +kernel, ini_Sta, by decide +kernel⟩
theorem vi_Sta_ownedBlocks : mVirt mi_Sta_ownedBlocks := ⟨in_tbl 511 (by decide +kernel), in_tbl 512 (by decide +kernel)⟩
theorem ok_Poo_restore : mOK mi_Poo_restore 0 := ⟨in_tbl 517 (by decide +kernel), by decide +kernel, by decide +kernel, by decide +kernel, ini_Poo, by decide +kernel⟩
theorem vi_Poo_restore : mVirt mi_Poo_restore := ⟨in_tbl 515 (by decide +kernel), in_tbl 516 (by decide +kernel)⟩
theorem ok_Poo_block : mOK mi_Poo_block 2 := ⟨in_tbl 521 (by decide +kernel), by decide +kernel, by decide +kernel, by decide +kernel, ini_Poo, by decide +kernel⟩
theorem vi_Poo_block : mVirt mi_Poo_block := ⟨in_tbl 519 (by decide +kernel), in_tbl 520 (by decide +kernel)⟩
theorem ok_Sta_tellBlock : mOK mi_Sta_tellBlock 2 := ⟨in_tbl 525 (by decide +kernel), by decide +kernel, by decide +kernel, by decide +kernel, ini_Sta, by decide +kernel⟩
theorem vi_Sta_tellBlock : mVirt mi_Sta_tellBlock := ⟨in_tbl 523 (by decide +kernel), in_tbl 524 (by decide +kernel)⟩
theorem ok_Poo_word : mOK mi_Poo_word 2 := ⟨in_tbl 529 (by decide +kernel), by decide +kernel, by decide +kernel, by decide +kernel, ini_Poo, by decide +kernel⟩
theorem vi_Poo_word : mVirt mi_Poo_word := ⟨in_tbl 527 (by decide +kernel), in_tbl 528 (by decide +kernel)⟩
theorem ok_Sta_tellWord : mOK mi_Sta_tellWord 2 := ⟨in_tbl 533 (by decide +kernel), by decide +kernel, by decide +kernel, by decide +kernel, ini_Sta, by decide +kernel⟩
theorem vi_Sta_tellWord : mVirt mi_Sta_tellWord := ⟨in_tbl 531 (by decide +kernel), in_tbl 532 (by decide +kernel)⟩
theorem ok_Poo_task : mOK mi_Poo_task 2 := ⟨in_tbl 537 (by decide +kernel), by decide +kernel, by decide +kernel, by decide +kernel, ini_Poo, by decide +kernel⟩
theorem vi_Poo_task : mVirt mi_Poo_task := ⟨in_tbl 535 (by decide +kernel), in_tbl 536 (by decide +kernel)⟩
theorem ok_Sta_tellTask : mOK mi_Sta_tellTask 2 := ⟨in_tbl 541 (by decide +kernel), by decide +kernel, by decide +kernel, by decide +kernel, ini_Sta, by decide +kernel⟩
theorem vi_Sta_tellTask : mVirt mi_Sta_tellTask := ⟨in_tbl 539 (by decide +kernel), in_tbl 540 (by decide +kernel)⟩
theorem ok_Sta_askedBy : mOK mi_Sta_askedBy 1 := ⟨in_tbl 545 (by decide +kernel), by decide +kernel, by decide +kernel, by decide +kernel, ini_Sta, by decide +kernel⟩
theorem vi_Sta_askedBy : mVirt mi_Sta_askedBy := ⟨in_tbl 544 (by decide +kernel), in_sel 29 (by decide +kernel)⟩
theorem ok_Poo_reason : mOK mi_Poo_reason 2 := ⟨in_tbl 549 (by decide +kernel), by decide +kernel, by decide +kernel, by decide +kernel, ini_Poo, by decide +kernel⟩
theorem vi_Poo_reason : mVirt mi_Poo_reason := ⟨in_tbl 547 (by decide +kernel), in_tbl 548 (by decide +kernel)⟩
theorem ok_Poo_greatest : mOK mi_Poo_greatest 1 := ⟨in_tbl 553 (by decide +kernel), by decide +kernel, by decide +kernel, by decide +kernel, ini_Poo, by decide +kernel⟩
theorem vi_Poo_greatest : mVirt mi_Poo_greatest := ⟨in_tbl 551 (by decide +kernel), in_tbl 552 (by decide +kernel)⟩
theorem ok_Sta_greatestRequest : mOK mi_Sta_greatestRequest 1 := ⟨in_tbl 557 (by decide +kernel), by decide +kernel, by decide +kernel, by decide +kernel, ini_Sta, by decide +kernel⟩
theorem vi_Sta_greatestRequest : mVirt mi_Sta_greatestRequest := ⟨in_tbl 555 (by decide +kernel), in_tbl 556 (by decide +kernel)⟩
theorem ok_Poo_leak : mOK mi_Poo_leak 1 := ⟨in_tbl 561 (by decide +kernel), by decide +kernel, by decide +kernel, by decide +kernel, ini_Poo, by decide +kernel⟩
theorem vi_Poo_leak : mVirt mi_Poo_leak := ⟨in_tbl 559 (by decide +kernel), in_tbl 560 (by decide +kernel)⟩
theorem ok_Sta_leakOfRank : mOK mi_Sta_leakOfRank 1 := ⟨in_tbl 565 (by decide +kernel), by decide +kernel, by decide +kernel, by decide +kernel, ini_Sta, by decide +kernel⟩
theorem vi_Sta_leakOfRank : mVirt mi_Sta_leakOfRank := ⟨in_tbl 563 (by decide +kernel), in_tbl 564 (by decide +kernel)⟩
theorem ok_Sta_leaksAheadOf : mOK mi_Sta_leaksAheadOf 1 := ⟨in_tbl 569 (by decide +kernel), by decide +kernel, by decide +kernel, by decide +kernel, ini_Sta, by decide +kernel⟩
theorem vi_Sta_leaksAheadOf : mVirt mi_Sta_leaksAheadOf := ⟨in_tbl 568 (by decide +kernel), in_sel 30 (by decide +kernel)⟩
theorem ok_Poo_refused : mOK mi_Poo_refused 1 := ⟨in_tbl 573 (by decide +kernel), by decide +kernel, by decide +kernel, by decide +kernel, ini_Poo, by decide +kernel⟩
theorem vi_Poo_refused : mVirt mi_Poo_refused := ⟨in_tbl 571 (by decide +kernel), in_tbl 572 (by decide +kernel)⟩
theorem ok_Poo_size : mOK mi_Poo_size 2 := ⟨in_tbl 577 (by decide +kernel), by decide +kernel, by decide +kernel, by decide +kernel, ini_Poo, by decide +kernel⟩
theorem vi_Poo_size : mVirt mi_Poo_size := ⟨in_tbl 575 (by decide +kernel), in_tbl 576 (by decide +kernel)⟩
theorem ok_Sta_tellSize : mOK mi_Sta_tellSize 2 := ⟨in_tbl 581 (by decide +kernel), by decide +kernel, by decide +kernel, by decide +kernel, ini_Sta, by decide +kernel⟩
theorem vi_Sta_tellSize : mVirt mi_Sta_tellSize := ⟨in_tbl 579 (by decide +kernel), in_tbl 580 (by decide +kernel)⟩
theorem ok_Sta_blocksOfSize : mOK mi_Sta_blocksOfSize 2 := ⟨in_tbl 585 (by decide +kernel), by decide +kernel, by decide +kernel, by decide +kernel, ini_Sta, by decide +kernel⟩
theorem vi_Sta_blocksOfSize : mVirt mi_Sta_blocksOfSize := ⟨in_tbl 584 (by decide +kernel), in_sel 31 (by decide +kernel)⟩
theorem ok_Poo_count : mOK mi_Poo_count 1 := ⟨in_tbl 589 (by decide +kernel), by decide +kernel, by decide +kernel, by decide +kernel, ini_Poo, by decide +kernel⟩
theorem vi_Poo_count : mVirt mi_Poo_count := ⟨in_tbl 587 (by decide +kernel), in_tbl 588 (by decide +kernel)⟩
theorem ok_His_length : mOK mi_His_length 0 := ⟨in_tbl 593 (by decide +kernel), by decide +kernel, by decide +kernel, by decide +kernel, ini_His, by decide +kernel⟩
theorem vi_His_length : mVirt mi_His_length := ⟨in_tbl 591 (by decide +kernel), in_tbl 592 (by decide +kernel)⟩
theorem ok_Txt_length : mOK mi_Txt_length 0 := ⟨in_tbl 597 (by decide +kernel), by decide +kernel, by decide +kernel, by decide +kernel, ini_Txt, by decide +kernel⟩
theorem vi_Txt_length : mVirt mi_Txt_length := ⟨in_tbl 595 (by decide +kernel), in_tbl 596 (by decide +kernel)⟩
theorem ok_Sta_tellCount : mOK mi_Sta_tellCount 1 := ⟨in_tbl 601 (by decide +kernel), by decide +kernel, by decide +kernel, by decide +kernel, ini_Sta, by decide +kernel⟩
theorem vi_Sta_tellCount : mVirt mi_Sta_tellCount := ⟨in_tbl 599 (by decide +kernel), in_tbl 600 (by decide +kernel)⟩
theorem ok_Sta_ownedWords : mOK mi_Sta_ownedWords 0 := ⟨in_tbl 606 (by decide +kernel), by decide +kernel, by decide +kernel, by decide +kernel, ini_Sta, by decide +kernel⟩
theorem vi_Sta_ownedWords : mVirt mi_Sta_ownedWords := ⟨in_tbl 605 (by decide +kernel), in_sel 32 (by decide +kernel)⟩
theorem ok_Sta_askedWords : mOK mi_Sta_askedWords 0 := ⟨in_tbl 610 (by decide +kernel), by decide +kernel, by decide +kernel, by decide +kernel, ini_Sta, by decide +kernel⟩
theorem vi_Sta_askedWords : mVirt mi_Sta_askedWords := ⟨in_tbl 609 (by decide +kernel), in_sel 33 (by decide +kernel)⟩
theorem ok_Mod_init : mOK mi_Mod_init 0 := ⟨in_tbl 615 (by decide +kernel), by decide +kernel, by decide +kernel, by decide +kernel, ini_Mod, by decide +kernel⟩
theorem in_Mod_init : Cond.instanceMethod (mnm mi_Mod_init) ∈ lw_g := in_tbl 614 (by decide +kernel)
theorem ok_Mod_ask : mOK mi_Mod_ask 2 := ⟨in_tbl 672 (by decide +kernel), by decide +kernel, by decide +kernel, by decide +kernel, ini_Mod, by decide +kernel⟩
theorem vi_Mod_ask : mVirt mi_Mod_ask := ⟨in_tbl 670 (by decide +kernel), in_tbl 671 (by decide +kernel)⟩
theorem ok_Mod_askFault : mOK mi_Mod_askFault 2 := ⟨in_tbl 676 (by decide +kernel), by decide +kernel, by decide +kernel, by decide +kernel, ini_Mod, by decide +kernel⟩
theorem vi_Mod_askFault : mVirt mi_Mod_askFault := ⟨in_tbl 675 (by decide +kernel), in_sel 34 (by decide +kernel)⟩
theorem ok_Mod_isTask : mOK mi_Mod_isTask 1 := ⟨in_tbl 679 (by decide +kernel), by decide +kernel, by decide +kernel, by decide +kernel, ini_Mod, by decide +kernel⟩
theorem st_Mod_isTask : Cond.static (mnm mi_Mod_isTask) ∈ lw_g := in_tbl 678 (by decide +kernel)
theorem ok_Mod_in : mOK mi_Mod_in 3 := ⟨in_tbl 682 (by decide +kernel), by decide +kernel, by decide +kernel, by decide +kernel, ini_Mod, by decide +kernel⟩
theorem st_Mod_in : Cond.static (mnm mi_Mod_in) ∈ lw_g := in_tbl 681 (by decide +kernel)
theorem ok_Mod_why : mOK mi_Mod_why 2 := ⟨in_tbl 686 (by decide +kernel), by decide +kernel, by decide +kernel, by decide +kernel, ini_Mod, by decide +kernel⟩
theorem vi_Mod_why : mVirt mi_Mod_why := ⟨in_tbl 685 (by decide +kernel), in_sel 35 (by decide +kernel)⟩
theorem ok_Mod_sizeFor : mOK mi_Mod_sizeFor 1 := ⟨in_tbl 689 (by decide +kernel), by decide +kernel, by decide +kernel, by decide +kernel, ini_Mod, by decide +kernel⟩
theorem st_Mod_sizeFor : Cond.static (mnm mi_Mod_sizeFor) ∈ lw_g := in_tbl 688 (by decide +kernel)
theorem ok_Mod_wordsOf : mOK mi_Mod_wordsOf 1 := ⟨in_tbl 693 (by decide +kernel), by decide +kernel, by decide +kernel, by decide +kernel, ini_Mod, by decide +kernel⟩
theorem vi_Mod_wordsOf : mVirt mi_Mod_wordsOf := ⟨in_tbl 692 (by decide +kernel), in_sel 36 (by decide +kernel)⟩
theorem ok_Mod_isOwned : mOK mi_Mod_isOwned 1 := ⟨in_tbl 697 (by decide +kernel), by decide +kernel, by decide +kernel, by decide +kernel, ini_Mod, by decide +kernel⟩
theorem vi_Mod_isOwned : mVirt mi_Mod_isOwned := ⟨in_tbl 696 (by decide +kernel), in_sel 37 (by decide +kernel)⟩
theorem ok_Mod_lowestFree : mOK mi_Mod_lowestFree 1 := ⟨in_tbl 701 (by decide +kernel), by decide +kernel, by decide +kernel, by decide +kernel, ini_Mod, by decide +kernel⟩
theorem vi_Mod_lowestFree : mVirt mi_Mod_lowestFree := ⟨in_tbl 700 (by decide +kernel), in_sel 38 (by decide +kernel)⟩
theorem ok_Mod_isFree : mOK mi_Mod_isFree 1 := ⟨in_tbl 705 (by decide +kernel), by decide +kernel, by decide +kernel, by decide +kernel, ini_Mod, by decide +kernel⟩
theorem vi_Mod_isFree : mVirt mi_Mod_isFree := ⟨in_tbl 704 (by decide +kernel), in_sel 39 (by decide +kernel)⟩
theorem ok_Mod_know : mOK mi_Mod_know 0 := ⟨in_tbl 709 (by decide +kernel), by decide +kernel, by decide +kernel, by decide +kernel, ini_Mod, by decide +kernel⟩
theorem vi_Mod_know : mVirt mi_Mod_know := ⟨in_tbl 708 (by decide +kernel), in_sel 40 (by decide +kernel)⟩
theorem ok_Mod_asks : mOK mi_Mod_asks 2 := ⟨in_tbl 713 (by decide +kernel), by decide +kernel, by decide +kernel, by decide +kernel, ini_Mod, by decide +kernel⟩
theorem vi_Mod_asks : mVirt mi_Mod_asks := ⟨in_tbl 712 (by decide +kernel), in_sel 41 (by decide +kernel)⟩
theorem ok_Mod_taken : mOK mi_Mod_taken 1 := ⟨in_tbl 717 (by decide +kernel), by decide +kernel, by decide +kernel, by decide +kernel, ini_Mod, by decide +kernel⟩
theorem vi_Mod_taken : mVirt mi_Mod_taken := ⟨in_tbl 716 (by decide +kernel), in_sel 42 (by decide +kernel)⟩
theorem ok_Mod_giveBack : mOK mi_Mod_giveBack 2 := ⟨in_tbl 721 (by decide +kernel), by decide +kernel, by decide +kernel, by decide +kernel, ini_Mod, by decide +kernel⟩
theorem vi_Mod_giveBack : mVirt mi_Mod_giveBack := ⟨in_tbl 719 (by decide +kernel), in_tbl 720 (by decide +kernel)⟩
theorem ok_Mod_backFault : mOK mi_Mod_backFault 2 := ⟨in_tbl 725 (by decide +kernel), by decide +kernel, by decide +kernel, by decide +kernel, ini_Mod, by decide +kernel⟩
theorem vi_Mod_backFault : mVirt mi_Mod_backFault := ⟨in_tbl 724 (by decide +kernel), in_sel 43 (by decide +kernel)⟩
theorem ok_Mod_beginOf : mOK mi_Mod_beginOf 1 := ⟨in_tbl 729 (by decide +kernel), by decide +kernel, by decide +kernel, by decide +kernel, ini_Mod, by decide +kernel⟩
theorem vi_Mod_beginOf : mVirt mi_Mod_beginOf := ⟨in_tbl 728 (by decide +kernel), in_sel 44 (by decide +kernel)⟩
theorem ok_Mod_frees : mOK mi_Mod_frees 1 := ⟨in_tbl 733 (by decide +kernel), by decide +kernel, by decide +kernel, by decide +kernel, ini_Mod, by decide +kernel⟩
theorem vi_Mod_frees : mVirt mi_Mod_frees := ⟨in_tbl 732 (by decide +kernel), in_sel 45 (by decide +kernel)⟩
theorem ok_Mod_broken : mOK mi_Mod_broken 1 := ⟨in_tbl 737 (by decide +kernel), by decide +kernel, by decide +kernel, by decide +kernel, ini_Mod, by decide +kernel⟩
theorem vi_Mod_broken : mVirt mi_Mod_broken := ⟨in_tbl 736 (by decide +kernel), in_sel 46 (by decide +kernel)⟩
theorem ok_Mod_write : mOK mi_Mod_write 4 := ⟨in_tbl 741 (by decide +kernel), by decide +kernel, by decide +kernel, by decide +kernel, ini_Mod, by decide +kernel⟩
theorem vi_Mod_write : mVirt mi_Mod_write := ⟨in_tbl 739 (by decide +kernel), in_tbl 740 (by decide +kernel)⟩
theorem ok_Mod_beginAt : mOK mi_Mod_beginAt 1 := ⟨in_tbl 745 (by decide +kernel), by decide +kernel, by decide +kernel, by decide +kernel, ini_Mod, by decide +kernel⟩
theorem vi_Mod_beginAt : mVirt mi_Mod_beginAt := ⟨in_tbl 744 (by decide +kernel), in_sel 47 (by decide +kernel)⟩
theorem ok_Mod_isGuard : mOK mi_Mod_isGuard 1 := ⟨in_tbl 749 (by decide +kernel), by decide +kernel, by decide +kernel, by decide +kernel, ini_Mod, by decide +kernel⟩
theorem vi_Mod_isGuard : mVirt mi_Mod_isGuard := ⟨in_tbl 748 (by decide +kernel), in_sel 48 (by decide +kernel)⟩
theorem ok_Mod_touch : mOK mi_Mod_touch 1 := ⟨in_tbl 753 (by decide +kernel), by decide +kernel, by decide +kernel, by decide +kernel, ini_Mod, by decide +kernel⟩
theorem vi_Mod_touch : mVirt mi_Mod_touch := ⟨in_tbl 751 (by decide +kernel), in_tbl 752 (by decide +kernel)⟩
theorem ok_Mod_puts : mOK mi_Mod_puts 2 := ⟨in_tbl 757 (by decide +kernel), by decide +kernel, by decide +kernel, by decide +kernel, ini_Mod, by decide +kernel⟩
theorem vi_Mod_puts : mVirt mi_Mod_puts := ⟨in_tbl 756 (by decide +kernel), in_sel 49 (by decide +kernel)⟩
theorem ok_Mod_live : mOK mi_Mod_live 2 := ⟨in_tbl 761 (by decide +kernel), by decide +kernel, by decide +kernel, by decide +kernel, ini_Mod, by decide +kernel⟩
theorem vi_Mod_live : mVirt mi_Mod_live := ⟨in_tbl 759 (by decide +kernel), in_tbl 760 (by decide +kernel)⟩
theorem ok_Mod_blocksOf : mOK mi_Mod_blocksOf 1 := ⟨in_tbl 765 (by decide +kernel), by decide +kernel, by decide +kernel, by decide +kernel, ini_Mod, by decide +kernel⟩
theorem vi_Mod_blocksOf : mVirt mi_Mod_blocksOf := ⟨in_tbl 764 (by decide +kernel), in_sel 50 (by decide +kernel)⟩
theorem ok_Mod_setLimit : mOK mi_Mod_setLimit 2 := ⟨in_tbl 769 (by decide +kernel), by decide +kernel, by decide +kernel, by decide +kernel, ini_Mod, by decide +kernel⟩
theorem vi_Mod_setLimit : mVirt mi_Mod_setLimit := ⟨in_tbl 767 (by decide +kernel), in_tbl 768 (by decide +kernel)⟩
theorem ok_Mod_setPatience : mOK mi_Mod_setPatience 1 := ⟨in_tbl 773 (by decide +kernel), by decide +kernel, by decide +kernel, by decide +kernel, ini_Mod, by decide +kernel⟩
theorem vi_Mod_setPatience : mVirt mi_Mod_setPatience := ⟨in_tbl 771 (by decide +kernel), in_tbl 772 (by decide +kernel)⟩
theorem ok_Mod_pass : mOK mi_Mod_pass 1 := ⟨in_tbl 777 (by decide +kernel), by decide +kernel, by decide +kernel, by decide +kernel, ini_Mod, by decide +kernel⟩
theorem vi_Mod_pass : mVirt mi_Mod_pass := ⟨in_tbl 775 (by decide +kernel), in_tbl 776 (by decide +kernel)⟩
theorem ok_Mod_passFault : mOK mi_Mod_passFault 1 := ⟨in_tbl 781 (by decide +kernel), by decide +kernel, by decide +kernel, by decide +kernel, ini_Mod, by decide +kernel⟩
theorem vi_Mod_passFault : mVirt mi_Mod_passFault := ⟨in_tbl 780 (by decide +kernel), in_sel 51 (by decide +kernel)⟩
theorem ok_Mod_passes : mOK mi_Mod_passes 1 := ⟨in_tbl 785 (by decide +kernel), by decide +kernel, by decide +kernel, by decide +kernel, ini_Mod, by decide +kernel⟩
theorem vi_Mod_passes : mVirt mi_Mod_passes := ⟨in_tbl 784 (by decide +kernel), in_sel 52 (by decide +kernel)⟩
theorem ok_Mod_leaks : mOK mi_Mod_leaks 1 := ⟨in_tbl 789 (by decide +kernel), by decide +kernel, by decide +kernel, by decide +kernel, ini_Mod, by decide +kernel⟩
theorem vi_Mod_leaks : mVirt mi_Mod_leaks := ⟨in_tbl 788 (by decide +kernel), in_sel 53 (by decide +kernel)⟩
theorem ok_Mod_isLeak : mOK mi_Mod_isLeak 1 := ⟨in_tbl 793 (by decide +kernel), by decide +kernel, by decide +kernel, by decide +kernel, ini_Mod, by decide +kernel⟩
theorem vi_Mod_isLeak : mVirt mi_Mod_isLeak := ⟨in_tbl 792 (by decide +kernel), in_sel 54 (by decide +kernel)⟩
theorem ok_Mod_sweep : mOK mi_Mod_sweep 0 := ⟨in_tbl 797 (by decide +kernel), by decide +kernel, by decide +kernel, by decide +kernel, ini_Mod, by decide +kernel⟩
theorem vi_Mod_sweep : mVirt mi_Mod_sweep := ⟨in_tbl 795 (by decide +kernel), in_tbl 796 (by decide +kernel)⟩
theorem ok_Mod_sweeps : mOK mi_Mod_sweeps 0 := ⟨in_tbl 801 (by decide +kernel), by decide +kernel, by decide +kernel, by decide +kernel, ini_Mod, by decide +kernel⟩
theorem vi_Mod_sweeps : mVirt mi_Mod_sweeps := ⟨in_tbl 800 (by decide +kernel), in_sel 55 (by decide +kernel)⟩
theorem ok_Mod_type : mOK mi_Mod_type 1 := ⟨in_tbl 805 (by decide +kernel), by decide +kernel, by decide +kernel, by decide +kernel, ini_Mod, by decide +kernel⟩
theorem vi_Mod_type : mVirt mi_Mod_type := ⟨in_tbl 803 (by decide +kernel), in_tbl 804 (by decide +kernel)⟩
theorem ok_Mod_clearText : mOK mi_Mod_clearText 0 := ⟨in_tbl 809 (by decide +kernel), by decide +kernel, by decide +kernel, by decide +kernel, ini_Mod, by decide +kernel⟩
theorem vi_Mod_clearText : mVirt mi_Mod_clearText := ⟨in_tbl 807 (by decide +kernel), in_tbl 808 (by decide +kernel)⟩
theorem ok_Mod_perform : mOK mi_Mod_perform 0 := ⟨in_tbl 813 (by decide +kernel), by decide +kernel, by decide +kernel, by decide +kernel, ini_Mod, by decide +kernel⟩
theorem vi_Mod_perform : mVirt mi_Mod_perform := ⟨in_tbl 811 (by decide +kernel), in_tbl 812 (by decide +kernel)⟩
theorem ok_Mod_go : mOK mi_Mod_go 1 := ⟨in_tbl 817 (by decide +kernel), by decide +kernel, by decide +kernel, by decide +kernel, ini_Mod, by decide +kernel⟩
theorem vi_Mod_go : mVirt mi_Mod_go := ⟨in_tbl 816 (by decide +kernel), in_sel 56 (by decide +kernel)⟩
theorem ok_Mod_read : mOK mi_Mod_read 0 := ⟨in_tbl 821 (by decide +kernel), by decide +kernel, by decide +kernel, by decide +kernel, ini_Mod, by decide +kernel⟩
theorem vi_Mod_read : mVirt mi_Mod_read := ⟨in_tbl 820 (by decide +kernel), in_sel 57 (by decide +kernel)⟩
theorem ok_Mod_number : mOK mi_Mod_number 2 := ⟨in_tbl 825 (by decide +kernel), by decide +kernel, by decide +kernel, by decide +kernel, ini_Mod, by decide +kernel⟩
theorem vi_Mod_number : mVirt mi_Mod_number := ⟨in_tbl 824 (by decide +kernel), in_sel 58 (by decide +kernel)⟩
theorem ok_Mod_sign : mOK mi_Mod_sign 2 := ⟨in_tbl 829 (by decide +kernel), by decide +kernel, by decide +kernel, by decide +kernel, ini_Mod, by decide +kernel⟩
theorem vi_Mod_sign : mVirt mi_Mod_sign := ⟨in_tbl 828 (by decide +kernel), in_sel 59 (by decide +kernel)⟩
theorem ok_Mod_does : mOK mi_Mod_does 0 := ⟨in_tbl 833 (by decide +kernel), by decide +kernel, by decide +kernel, by decide +kernel, ini_Mod, by decide +kernel⟩
theorem vi_Mod_does : mVirt mi_Mod_does := ⟨in_tbl 832 (by decide +kernel), in_sel 60 (by decide +kernel)⟩
theorem ok_Mod_putAside : mOK mi_Mod_putAside 0 := ⟨in_tbl 837 (by decide +kernel), by decide +kernel, by decide +kernel, by decide +kernel, ini_Mod, by decide +kernel⟩
theorem vi_Mod_putAside : mVirt mi_Mod_putAside := ⟨in_tbl 836 (by decide +kernel), in_sel 61 (by decide +kernel)⟩
theorem ok_Mod_putBack : mOK mi_Mod_putBack 0 := ⟨in_tbl 841 (by decide +kernel), by decide +kernel, by decide +kernel, by decide +kernel, ini_Mod, by decide +kernel⟩
theorem vi_Mod_putBack : mVirt mi_Mod_putBack := ⟨in_tbl 840 (by decide +kernel), in_sel 62 (by decide +kernel)⟩
theorem ok_Mod_stopped : mOK mi_Mod_stopped 1 := ⟨in_tbl 845 (by decide +kernel), by decide +kernel, by decide +kernel, by decide +kernel, ini_Mod, by decide +kernel⟩
theorem vi_Mod_stopped : mVirt mi_Mod_stopped := ⟨in_tbl 843 (by decide +kernel), in_tbl 844 (by decide +kernel)⟩
theorem ok_Mod_undo : mOK mi_Mod_undo 0 := ⟨in_tbl 849 (by decide +kernel), by decide +kernel, by decide +kernel, by decide +kernel, ini_Mod, by decide +kernel⟩
theorem vi_Mod_undo : mVirt mi_Mod_undo := ⟨in_tbl 847 (by decide +kernel), in_tbl 848 (by decide +kernel)⟩
theorem ok_Mod_keep : mOK mi_Mod_keep 0 := ⟨in_tbl 853 (by decide +kernel), by decide +kernel, by decide +kernel, by decide +kernel, ini_Mod, by decide +kernel⟩
theorem vi_Mod_keep : mVirt mi_Mod_keep := ⟨in_tbl 851 (by decide +kernel), in_tbl 852 (by decide +kernel)⟩
theorem ok_Mod_owned : mOK mi_Mod_owned 0 := ⟨in_tbl 857 (by decide +kernel), by decide +kernel, by decide +kernel, by decide +kernel, ini_Mod, by decide +kernel⟩
theorem vi_Mod_owned : mVirt mi_Mod_owned := ⟨in_tbl 856 (by decide +kernel), in_sel 63 (by decide +kernel)⟩
theorem ok_Mod_restore : mOK mi_Mod_restore 0 := ⟨in_tbl 861 (by decide +kernel), by decide +kernel, by decide +kernel, by decide +kernel, ini_Mod, by decide +kernel⟩
theorem vi_Mod_restore : mVirt mi_Mod_restore := ⟨in_tbl 859 (by decide +kernel), in_tbl 860 (by decide +kernel)⟩
theorem ok_Mod_block : mOK mi_Mod_block 2 := ⟨in_tbl 865 (by decide +kernel), by decide +kernel, by decide +kernel, by decide +kernel, ini_Mod, by decide +kernel⟩
theorem vi_Mod_block : mVirt mi_Mod_block := ⟨in_tbl 863 (by decide +kernel), in_tbl 864 (by decide +kernel)⟩
theorem ok_Mod_sizeNumber : mOK mi_Mod_sizeNumber 1 := ⟨in_tbl 868 (by decide +kernel), by decide +kernel, by decide +kernel, by decide +kernel, ini_Mod, by decide +kernel⟩
theorem st_Mod_sizeNumber : Cond.static (mnm mi_Mod_sizeNumber) ∈ lw_g := in_tbl 867 (by decide +kernel)
theorem ok_Mod_word : mOK mi_Mod_word 2 := ⟨in_tbl 872 (by decide +kernel), by decide +kernel, by decide +kernel, by decide +kernel, ini_Mod, by decide +kernel⟩
theorem vi_Mod_word : mVirt mi_Mod_word := ⟨in_tbl 870 (by decide +kernel), in_tbl 871 (by decide +kernel)⟩
theorem ok_Mod_task : mOK mi_Mod_task 2 := ⟨in_tbl 876 (by decide +kernel), by decide +kernel, by decide +kernel, by decide +kernel, ini_Mod, by decide +kernel⟩
theorem vi_Mod_task : mVirt mi_Mod_task := ⟨in_tbl 874 (by decide +kernel), in_tbl 875 (by decide +kernel)⟩
theorem ok_Mod_asked : mOK mi_Mod_asked 1 := ⟨in_tbl 880 (by decide +kernel), by decide +kernel, by decide +kernel, by decide +kernel, ini_Mod, by decide +kernel⟩
theorem vi_Mod_asked : mVirt mi_Mod_asked := ⟨in_tbl 879 (by decide +kernel), in_sel 64 (by decide +kernel)⟩
theorem ok_Mod_reason : mOK mi_Mod_reason 2 := ⟨in_tbl 884 (by decide +kernel), by decide +kernel, by decide +kernel, by decide +kernel, ini_Mod, by decide +kernel⟩
theorem vi_Mod_reason : mVirt mi_Mod_reason := ⟨in_tbl 882 (by decide +kernel), in_tbl 883 (by decide +kernel)⟩
theorem ok_Mod_greatest : mOK mi_Mod_greatest 1 := ⟨in_tbl 888 (by decide +kernel), by decide +kernel, by decide +kernel, by decide +kernel, ini_Mod, by decide +kernel⟩
theorem vi_Mod_greatest : mVirt mi_Mod_greatest := ⟨in_tbl 886 (by decide +kernel), in_tbl 887 (by decide +kernel)⟩
theorem ok_Mod_leak : mOK mi_Mod_leak 1 := ⟨in_tbl 892 (by decide +kernel), by decide +kernel, by decide +kernel, by decide +kernel, ini_Mod, by decide +kernel⟩
theorem vi_Mod_leak : mVirt mi_Mod_leak := ⟨in_tbl 890 (by decide +kernel), in_tbl 891 (by decide +kernel)⟩
theorem ok_Mod_ahead : mOK mi_Mod_ahead 1 := ⟨in_tbl 896 (by decide +kernel), by decide +kernel, by decide +kernel, by decide +kernel, ini_Mod, by decide +kernel⟩
theorem vi_Mod_ahead : mVirt mi_Mod_ahead := ⟨in_tbl 895 (by decide +kernel), in_sel 65 (by decide +kernel)⟩
theorem ok_Mod_refused : mOK mi_Mod_refused 1 := ⟨in_tbl 900 (by decide +kernel), by decide +kernel, by decide +kernel, by decide +kernel, ini_Mod, by decide +kernel⟩
theorem vi_Mod_refused : mVirt mi_Mod_refused := ⟨in_tbl 898 (by decide +kernel), in_tbl 899 (by decide +kernel)⟩
theorem ok_Mod_size : mOK mi_Mod_size 2 := ⟨in_tbl 904 (by decide +kernel), by decide +kernel, by decide +kernel, by decide +kernel, ini_Mod, by decide +kernel⟩
theorem vi_Mod_size : mVirt mi_Mod_size := ⟨in_tbl 902 (by decide +kernel), in_tbl 903 (by decide +kernel)⟩
theorem ok_Mod_count : mOK mi_Mod_count 1 := ⟨in_tbl 908 (by decide +kernel), by decide +kernel, by decide +kernel, by decide +kernel, ini_Mod, by decide +kernel⟩
theorem vi_Mod_count : mVirt mi_Mod_count := ⟨in_tbl 906 (by decide +kernel), in_tbl 907 (by decide +kernel)⟩
theorem ok_Mod_freeWords : mOK mi_Mod_freeWords 0 := ⟨in_tbl 912 (by decide +kernel), by decide +kernel, by decide +kernel, by decide +kernel, ini_Mod, by decide +kernel⟩
theorem vi_Mod_freeWords : mVirt mi_Mod_freeWords := ⟨in_tbl 911 (by decide +kernel), in_sel 66 (by decide +kernel)⟩
theorem ml_Law_9 : Cond.methodLink "GuardedPoolLaw" 9 (mnm mi_Poo_init) ∈ lw_g := in_tbl 13 (by decide +kernel)
theorem ml_Poo_1 : Cond.methodLink "GuardedPool" 1 Lib.objectInit ∈ lw_g := in_tbl 16 (by decide +kernel)
theorem ml_Poo_9 : Cond.methodLink "GuardedPool" 9 (mnm mi_Sta_init) ∈ lw_g := in_tbl 21 (by decide +kernel)
theorem ml_Sta_3 : Cond.methodLink "GuardedPool$State" 3 Lib.objectInit ∈ lw_g := in_tbl 24 (by decide +kernel)
theorem ml_Sta_17 : Cond.methodLink "GuardedPool$State" 17 (mnm mi_Blk_init) ∈ lw_g := in_tbl 28 (by decide +kernel)
theorem ml_Blk_3 : Cond.methodLink "GuardedPool$Block" 3 Lib.objectInit ∈ lw_g := in_tbl 31 (by decide +kernel)
theorem ml_Sta_30 : Cond.methodLink "GuardedPool$State" 30 (mnm mi_Tsk_init) ∈ lw_g := in_tbl 60 (by decide +kernel)
theorem ml_Tsk_3 : Cond.methodLink "GuardedPool$Task" 3 Lib.objectInit ∈ lw_g := in_tbl 63 (by decide +kernel)
theorem ml_Poo_24 : Cond.methodLink "GuardedPool" 24 (mnm mi_His_init) ∈ lw_g := in_tbl 108 (by decide +kernel)
theorem ml_His_3 : Cond.methodLink "GuardedPool$History" 3 Lib.objectInit ∈ lw_g := in_tbl 111 (by decide +kernel)
theorem ml_His_17 : Cond.methodLink "GuardedPool$History" 17 (mnm mi_Sta_init) ∈ lw_g := in_tbl 114 (by decide +kernel)
theorem ml_Poo_31 : Cond.methodLink "GuardedPool" 31 (mnm mi_Txt_init) ∈ lw_g := in_tbl 127 (by decide +kernel)
theorem ml_Txt_3 : Cond.methodLink "GuardedPool$Text" 3 Lib.objectInit ∈ lw_g := in_tbl 130 (by decide +kernel)
theorem ml_Txt_21 : Cond.methodLinkNest "GuardedPool$Text" 21 (mnm mi_Cmd_init) "GuardedPool" ∈ lw_tbl := in_raw 134 (by decide +kernel)
theorem ml_Cmd_1 : Cond.methodLink "GuardedPool$Command" 1 Lib.objectInit ∈ lw_g := in_tbl 137 (by decide +kernel)
theorem ml_Law_13 : Cond.methodLink "GuardedPoolLaw" 13 (mnm mi_Poo_ask) ∈ lw_g := in_tbl 202 (by decide +kernel)
theorem ml_Poo_40 : Cond.methodLink "GuardedPool" 40 (mnm mi_Sta_copyFrom) ∈ lw_g := in_tbl 206 (by decide +kernel)
theorem ml_Sta_35 : Cond.methodLink "GuardedPool$State" 35 (mnm mi_Blk_copyFrom) ∈ lw_g := in_tbl 210 (by decide +kernel)
theorem ml_Sta_39 : Cond.methodLink "GuardedPool$State" 39 arraycopyName ∈ lw_g := in_tbl 214 (by decide +kernel)
theorem ml_Sta_45 : Cond.methodLink "GuardedPool$State" 45 (mnm mi_Tsk_copyFrom) ∈ lw_g := in_tbl 217 (by decide +kernel)
theorem ml_Poo_44 : Cond.methodLink "GuardedPool" 44 (mnm mi_Sta_grant) ∈ lw_g := in_tbl 221 (by decide +kernel)
theorem ml_Sta_63 : Cond.methodLink "GuardedPool$State" 63 (mnm mi_Sta_whyNot) ∈ lw_g := in_tbl 225 (by decide +kernel)
theorem ml_Sta_90 : Cond.methodLink "GuardedPool$State" 90 (mnm mi_Sta_taskOf) ∈ lw_g := in_tbl 229 (by decide +kernel)
theorem ml_Sta_67 : Cond.methodLink "GuardedPool$State" 67 (mnm mi_Sta_sizeFor) ∈ lw_g := in_tbl 233 (by decide +kernel)
theorem ml_Sta_138 : Cond.methodLink "GuardedPool$State" 138 (mnm mi_Blk_wordsOf) ∈ lw_g := in_tbl 236 (by decide +kernel)
theorem ml_Sta_185 : Cond.methodLink "GuardedPool$State" 185 (mnm mi_Sta_wordsOf) ∈ lw_g := in_tbl 239 (by decide +kernel)
theorem ml_Sta_157 : Cond.methodLink "GuardedPool$State" 157 (mnm mi_Blk_words) ∈ lw_g := in_tbl 243 (by decide +kernel)
theorem ml_Blk_30 : Cond.methodLink "GuardedPool$Block" 30 (mnm mi_Blk_wordsOf) ∈ lw_g := in_tbl 247 (by decide +kernel)
theorem ml_Sta_148 : Cond.methodLink "GuardedPool$State" 148 (mnm mi_Sta_roomFor) ∈ lw_g := in_tbl 248 (by decide +kernel)
theorem ml_Sta_145 : Cond.methodLink "GuardedPool$State" 145 (mnm mi_Sta_lowestFree) ∈ lw_g := in_tbl 252 (by decide +kernel)
theorem ml_Sta_141 : Cond.methodLink "GuardedPool$State" 141 (mnm mi_Blk_isFreeOf) ∈ lw_g := in_tbl 256 (by decide +kernel)
theorem ml_Sta_71 : Cond.methodLink "GuardedPool$State" 71 (mnm mi_Sta_cutOut) ∈ lw_g := in_tbl 260 (by decide +kernel)
theorem ml_Sta_154 : Cond.methodLink "GuardedPool$State" 154 (mnm mi_Sta_halve) ∈ lw_g := in_tbl 264 (by decide +kernel)
theorem ml_Sta_160 : Cond.methodLink "GuardedPool$State" 160 (mnm mi_Sta_placeAt) ∈ lw_g := in_tbl 268 (by decide +kernel)
theorem ml_Poo_48 : Cond.methodLink "GuardedPool" 48 (mnm mi_Sta_whyNot) ∈ lw_g := in_tbl 272 (by decide +kernel)
theorem ml_Poo_51 : Cond.methodLink "GuardedPool" 51 (mnm mi_Poo_countRefusal) ∈ lw_g := in_tbl 273 (by decide +kernel)
theorem ml_Poo_55 : Cond.methodLink "GuardedPool" 55 (mnm mi_Poo_recorded) ∈ lw_g := in_tbl 277 (by decide +kernel)
theorem ml_Poo_161 : Cond.methodLink "GuardedPool" 161 (mnm mi_His_record) ∈ lw_g := in_tbl 281 (by decide +kernel)
theorem ml_His_25 : Cond.methodLink "GuardedPool$History" 25 (mnm mi_Sta_copyFrom) ∈ lw_g := in_tbl 285 (by decide +kernel)
theorem ml_His_29 : Cond.methodLink "GuardedPool$History" 29 Lib.Math.min.name ∈ lw_g := in_tbl 286 (by decide +kernel)
theorem ml_Law_18 : Cond.methodLink "GuardedPoolLaw" 18 (mnm mi_Poo_giveBack) ∈ lw_g := in_tbl 289 (by decide +kernel)
theorem ml_Poo_59 : Cond.methodLink "GuardedPool" 59 (mnm mi_Sta_takeBack) ∈ lw_g := in_tbl 293 (by decide +kernel)
theorem ml_Sta_87 : Cond.methodLink "GuardedPool$State" 87 (mnm mi_Sta_blockOf) ∈ lw_g := in_tbl 297 (by decide +kernel)
theorem ml_Sta_169 : Cond.methodLink "GuardedPool$State" 169 (mnm mi_Blk_isOwned) ∈ lw_g := in_tbl 301 (by decide +kernel)
theorem ml_Sta_94 : Cond.methodLink "GuardedPool$State" 94 (mnm mi_Sta_free) ∈ lw_g := in_tbl 305 (by decide +kernel)
theorem ml_Sta_163 : Cond.methodLink "GuardedPool$State" 163 (mnm mi_Sta_brokenGuards) ∈ lw_g := in_tbl 309 (by decide +kernel)
theorem ml_Sta_112 : Cond.methodLink "GuardedPool$State" 112 (mnm mi_Sta_valueAt) ∈ lw_g := in_tbl 313 (by decide +kernel)
theorem ml_Sta_182 : Cond.methodLink "GuardedPool$State" 182 (mnm mi_Blk_rearGuard) ∈ lw_g := in_tbl 317 (by decide +kernel)
theorem ml_Sta_118 : Cond.methodLink "GuardedPool$State" 118 (mnm mi_Sta_setValue) ∈ lw_g := in_tbl 321 (by decide +kernel)
theorem ml_Sta_166 : Cond.methodLink "GuardedPool$State" 166 (mnm mi_Sta_joinTwins) ∈ lw_g := in_tbl 325 (by decide +kernel)
theorem ml_Law_22 : Cond.methodLink "GuardedPoolLaw" 22 (mnm mi_Poo_write) ∈ lw_g := in_tbl 329 (by decide +kernel)
theorem ml_Poo_62 : Cond.methodLink "GuardedPool" 62 (mnm mi_Sta_put) ∈ lw_g := in_tbl 333 (by decide +kernel)
theorem ml_Sta_101 : Cond.methodLink "GuardedPool$State" 101 (mnm mi_Sta_blockAt) ∈ lw_g := in_tbl 337 (by decide +kernel)
theorem ml_Sta_173 : Cond.methodLink "GuardedPool$State" 173 (mnm mi_Blk_holds) ∈ lw_g := in_tbl 341 (by decide +kernel)
theorem ml_Blk_34 : Cond.methodLink "GuardedPool$Block" 34 (mnm mi_Blk_words) ∈ lw_g := in_tbl 345 (by decide +kernel)
theorem ml_Sta_108 : Cond.methodLink "GuardedPool$State" 108 (mnm mi_Sta_kindOfHit) ∈ lw_g := in_tbl 346 (by decide +kernel)
theorem ml_Sta_176 : Cond.methodLink "GuardedPool$State" 176 (mnm mi_Blk_hasGuardAt) ∈ lw_g := in_tbl 349 (by decide +kernel)
theorem ml_Blk_38 : Cond.methodLink "GuardedPool$Block" 38 (mnm mi_Blk_isOwned) ∈ lw_g := in_tbl 353 (by decide +kernel)
theorem ml_Blk_42 : Cond.methodLink "GuardedPool$Block" 42 (mnm mi_Blk_rearGuard) ∈ lw_g := in_tbl 354 (by decide +kernel)
theorem ml_Sta_179 : Cond.methodLink "GuardedPool$State" 179 (mnm mi_Blk_wasAskedFor) ∈ lw_g := in_tbl 355 (by decide +kernel)
theorem ml_Law_27 : Cond.methodLink "GuardedPoolLaw" 27 (mnm mi_Poo_touch) ∈ lw_g := in_tbl 359 (by decide +kernel)
theorem ml_Poo_66 : Cond.methodLink "GuardedPool" 66 (mnm mi_Sta_useNow) ∈ lw_g := in_tbl 363 (by decide +kernel)
theorem ml_Sta_121 : Cond.methodLink "GuardedPool$State" 121 (mnm mi_Sta_ageOf) ∈ lw_g := in_tbl 367 (by decide +kernel)
theorem ml_Law_32 : Cond.methodLink "GuardedPoolLaw" 32 (mnm mi_Poo_live) ∈ lw_g := in_tbl 371 (by decide +kernel)
theorem ml_Poo_69 : Cond.methodLink "GuardedPool" 69 (mnm mi_Sta_makeAlive) ∈ lw_g := in_tbl 375 (by decide +kernel)
theorem ml_Sta_124 : Cond.methodLink "GuardedPool$State" 124 (mnm mi_Sta_blocksOf) ∈ lw_g := in_tbl 379 (by decide +kernel)
theorem ml_Law_37 : Cond.methodLink "GuardedPoolLaw" 37 (mnm mi_Poo_setLimit) ∈ lw_g := in_tbl 383 (by decide +kernel)
theorem ml_Poo_73 : Cond.methodLink "GuardedPool" 73 (mnm mi_Sta_changeLimit) ∈ lw_g := in_tbl 387 (by decide +kernel)
theorem ml_Law_41 : Cond.methodLink "GuardedPoolLaw" 41 (mnm mi_Poo_setPatience) ∈ lw_g := in_tbl 391 (by decide +kernel)
theorem ml_Poo_76 : Cond.methodLink "GuardedPool" 76 (mnm mi_Sta_changePatience) ∈ lw_g := in_tbl 395 (by decide +kernel)
theorem ml_Law_45 : Cond.methodLink "GuardedPoolLaw" 45 (mnm mi_Poo_pass) ∈ lw_g := in_tbl 399 (by decide +kernel)
theorem ml_Poo_79 : Cond.methodLink "GuardedPool" 79 (mnm mi_Sta_advance) ∈ lw_g := in_tbl 403 (by decide +kernel)
theorem ml_Sta_130 : Cond.methodLink "GuardedPool$State" 130 (mnm mi_Sta_leaks) ∈ lw_g := in_tbl 407 (by decide +kernel)
theorem ml_Sta_189 : Cond.methodLink "GuardedPool$State" 189 (mnm mi_Sta_leaksOf) ∈ lw_g := in_tbl 411 (by decide +kernel)
theorem ml_Sta_134 : Cond.methodLink "GuardedPool$State" 134 (mnm mi_Sta_isLeak) ∈ lw_g := in_tbl 415 (by decide +kernel)
theorem ml_Law_49 : Cond.methodLink "GuardedPoolLaw" 49 (mnm mi_Poo_sweep) ∈ lw_g := in_tbl 419 (by decide +kernel)
theorem ml_Poo_82 : Cond.methodLink "GuardedPool" 82 (mnm mi_Sta_takeLeaksBack) ∈ lw_g := in_tbl 423 (by decide +kernel)
theorem ml_Law_54 : Cond.methodLink "GuardedPoolLaw" 54 (mnm mi_Poo_type) ∈ lw_g := in_tbl 427 (by decide +kernel)
theorem ml_Poo_86 : Cond.methodLink "GuardedPool" 86 (mnm mi_Txt_append) ∈ lw_g := in_tbl 431 (by decide +kernel)
theorem ml_Law_59 : Cond.methodLink "GuardedPoolLaw" 59 (mnm mi_Poo_clearText) ∈ lw_g := in_tbl 435 (by decide +kernel)
theorem ml_Poo_90 : Cond.methodLink "GuardedPool" 90 (mnm mi_Txt_drop) ∈ lw_g := in_tbl 439 (by decide +kernel)
theorem ml_Law_63 : Cond.methodLink "GuardedPoolLaw" 63 (mnm mi_Poo_perform) ∈ lw_g := in_tbl 443 (by decide +kernel)
theorem ml_Poo_93 : Cond.methodLink "GuardedPool" 93 (mnm mi_Txt_read) ∈ lw_g := in_tbl 447 (by decide +kernel)
theorem ml_Txt_36 : Cond.methodLink "GuardedPool$Text" 36 (mnm mi_Txt_readCommand) ∈ lw_g := in_tbl 451 (by decide +kernel)
theorem ml_Txt_44 : Cond.methodLink "GuardedPool$Text" 44 (mnm mi_Txt_signHere) ∈ lw_g := in_tbl 455 (by decide +kernel)
theorem ml_Txt_51 : Cond.methodLink "GuardedPool$Text" 51 (mnm mi_Txt_readTwoNumbers) ∈ lw_g := in_tbl 459 (by decide +kernel)
theorem ml_Txt_55 : Cond.methodLink "GuardedPool$Text" 55 (mnm mi_Txt_readNumber) ∈ lw_g := in_tbl 463 (by decide +kernel)
theorem ml_Txt_65 : Cond.methodLink "GuardedPool$Text" 65 (mnm mi_Txt_digitHere) ∈ lw_g := in_tbl 467 (by decide +kernel)
theorem ml_Txt_40 : Cond.methodLink "GuardedPool$Text" 40 (mnm mi_Txt_readSign) ∈ lw_g := in_tbl 471 (by decide +kernel)
theorem ml_Poo_96 : Cond.methodLink "GuardedPool" 96 (mnm mi_Txt_commandCount) ∈ lw_g := in_tbl 475 (by decide +kernel)
theorem ml_Poo_99 : Cond.methodLink "GuardedPool" 99 (mnm mi_Txt_commandAt) ∈ lw_g := in_tbl 479 (by decide +kernel)
theorem ml_Poo_103 : Cond.methodLink "GuardedPool" 103 (mnm mi_Poo_answerTo) ∈ lw_g := in_tbl 483 (by decide +kernel)
theorem ml_Poo_107 : Cond.methodLink "GuardedPool" 107 (mnm mi_Poo_isError) ∈ lw_g := in_tbl 487 (by decide +kernel)
theorem ml_Poo_111 : Cond.methodLink "GuardedPool" 111 (mnm mi_Poo_noteStop) ∈ lw_g := in_tbl 490 (by decide +kernel)
theorem ml_Law_67 : Cond.methodLink "GuardedPoolLaw" 67 (mnm mi_Poo_stopped) ∈ lw_g := in_tbl 494 (by decide +kernel)
theorem ml_Law_71 : Cond.methodLink "GuardedPoolLaw" 71 (mnm mi_Poo_undo) ∈ lw_g := in_tbl 498 (by decide +kernel)
theorem ml_Poo_126 : Cond.methodLink "GuardedPool" 126 (mnm mi_His_takeLatest) ∈ lw_g := in_tbl 502 (by decide +kernel)
theorem ml_Law_75 : Cond.methodLink "GuardedPoolLaw" 75 (mnm mi_Poo_keep) ∈ lw_g := in_tbl 506 (by decide +kernel)
theorem ml_Poo_133 : Cond.methodLink "GuardedPool" 133 (mnm mi_Sta_ownedBlocks) ∈ lw_g := in_tbl 510 (by decide +kernel)
theorem ml_Law_79 : Cond.methodLink "GuardedPoolLaw" 79 (mnm mi_Poo_restore) ∈ lw_g := in_tbl 514 (by decide +kernel)
theorem ml_Law_83 : Cond.methodLink "GuardedPoolLaw" 83 (mnm mi_Poo_block) ∈ lw_g := in_tbl 518 (by decide +kernel)
theorem ml_Poo_136 : Cond.methodLink "GuardedPool" 136 (mnm mi_Sta_tellBlock) ∈ lw_g := in_tbl 522 (by decide +kernel)
theorem ml_Law_87 : Cond.methodLink "GuardedPoolLaw" 87 (mnm mi_Poo_word) ∈ lw_g := in_tbl 526 (by decide +kernel)
theorem ml_Poo_139 : Cond.methodLink "GuardedPool" 139 (mnm mi_Sta_tellWord) ∈ lw_g := in_tbl 530 (by decide +kernel)
theorem ml_Law_91 : Cond.methodLink "GuardedPoolLaw" 91 (mnm mi_Poo_task) ∈ lw_g := in_tbl 534 (by decide +kernel)
theorem ml_Poo_142 : Cond.methodLink "GuardedPool" 142 (mnm mi_Sta_tellTask) ∈ lw_g := in_tbl 538 (by decide +kernel)
theorem ml_Sta_186 : Cond.methodLink "GuardedPool$State" 186 (mnm mi_Sta_askedBy) ∈ lw_g := in_tbl 542 (by decide +kernel)
theorem ml_Law_95 : Cond.methodLink "GuardedPoolLaw" 95 (mnm mi_Poo_reason) ∈ lw_g := in_tbl 546 (by decide +kernel)
theorem ml_Law_99 : Cond.methodLink "GuardedPoolLaw" 99 (mnm mi_Poo_greatest) ∈ lw_g := in_tbl 550 (by decide +kernel)
theorem ml_Poo_145 : Cond.methodLink "GuardedPool" 145 (mnm mi_Sta_greatestRequest) ∈ lw_g := in_tbl 554 (by decide +kernel)
theorem ml_Law_103 : Cond.methodLink "GuardedPoolLaw" 103 (mnm mi_Poo_leak) ∈ lw_g := in_tbl 558 (by decide +kernel)
theorem ml_Poo_148 : Cond.methodLink "GuardedPool" 148 (mnm mi_Sta_leakOfRank) ∈ lw_g := in_tbl 562 (by decide +kernel)
theorem ml_Sta_205 : Cond.methodLink "GuardedPool$State" 205 (mnm mi_Sta_leaksAheadOf) ∈ lw_g := in_tbl 566 (by decide +kernel)
theorem ml_Law_107 : Cond.methodLink "GuardedPoolLaw" 107 (mnm mi_Poo_refused) ∈ lw_g := in_tbl 570 (by decide +kernel)
theorem ml_Law_111 : Cond.methodLink "GuardedPoolLaw" 111 (mnm mi_Poo_size) ∈ lw_g := in_tbl 574 (by decide +kernel)
theorem ml_Poo_151 : Cond.methodLink "GuardedPool" 151 (mnm mi_Sta_tellSize) ∈ lw_g := in_tbl 578 (by decide +kernel)
theorem ml_Sta_192 : Cond.methodLink "GuardedPool$State" 192 (mnm mi_Sta_blocksOfSize) ∈ lw_g := in_tbl 582 (by decide +kernel)
theorem ml_Law_115 : Cond.methodLink "GuardedPoolLaw" 115 (mnm mi_Poo_count) ∈ lw_g := in_tbl 586 (by decide +kernel)
theorem ml_Poo_154 : Cond.methodLink "GuardedPool" 154 (mnm mi_His_length) ∈ lw_g := in_tbl 590 (by decide +kernel)
theorem ml_Poo_157 : Cond.methodLink "GuardedPool" 157 (mnm mi_Txt_length) ∈ lw_g := in_tbl 594 (by decide +kernel)
theorem ml_Poo_158 : Cond.methodLink "GuardedPool" 158 (mnm mi_Sta_tellCount) ∈ lw_g := in_tbl 598 (by decide +kernel)
theorem ml_Sta_196 : Cond.methodLink "GuardedPool$State" 196 (mnm mi_Sta_ownedBlocks) ∈ lw_g := in_tbl 602 (by decide +kernel)
theorem ml_Sta_199 : Cond.methodLink "GuardedPool$State" 199 (mnm mi_Sta_ownedWords) ∈ lw_g := in_tbl 603 (by decide +kernel)
theorem ml_Sta_202 : Cond.methodLink "GuardedPool$State" 202 (mnm mi_Sta_askedWords) ∈ lw_g := in_tbl 607 (by decide +kernel)
theorem ml_Law_12 : Cond.methodLink "GuardedPoolLaw" 12 (mnm mi_Mod_init) ∈ lw_g := in_tbl 613 (by decide +kernel)
theorem ml_Mod_1 : Cond.methodLink "GuardedPoolModel" 1 Lib.objectInit ∈ lw_g := in_tbl 616 (by decide +kernel)
theorem ml_Law_17 : Cond.methodLink "GuardedPoolLaw" 17 (mnm mi_Mod_ask) ∈ lw_g := in_tbl 669 (by decide +kernel)
theorem ml_Mod_87 : Cond.methodLink "GuardedPoolModel" 87 (mnm mi_Mod_askFault) ∈ lw_g := in_tbl 673 (by decide +kernel)
theorem ml_Mod_71 : Cond.methodLink "GuardedPoolModel" 71 (mnm mi_Mod_isTask) ∈ lw_g := in_tbl 677 (by decide +kernel)
theorem ml_Mod_35 : Cond.methodLink "GuardedPoolModel" 35 (mnm mi_Mod_in) ∈ lw_g := in_tbl 680 (by decide +kernel)
theorem ml_Mod_74 : Cond.methodLink "GuardedPoolModel" 74 (mnm mi_Mod_why) ∈ lw_g := in_tbl 683 (by decide +kernel)
theorem ml_Mod_53 : Cond.methodLink "GuardedPoolModel" 53 (mnm mi_Mod_sizeFor) ∈ lw_g := in_tbl 687 (by decide +kernel)
theorem ml_Mod_56 : Cond.methodLink "GuardedPoolModel" 56 (mnm mi_Mod_wordsOf) ∈ lw_g := in_tbl 690 (by decide +kernel)
theorem ml_Mod_42 : Cond.methodLink "GuardedPoolModel" 42 (mnm mi_Mod_isOwned) ∈ lw_g := in_tbl 694 (by decide +kernel)
theorem ml_Mod_59 : Cond.methodLink "GuardedPoolModel" 59 (mnm mi_Mod_lowestFree) ∈ lw_g := in_tbl 698 (by decide +kernel)
theorem ml_Mod_50 : Cond.methodLink "GuardedPoolModel" 50 (mnm mi_Mod_isFree) ∈ lw_g := in_tbl 702 (by decide +kernel)
theorem ml_Mod_90 : Cond.methodLink "GuardedPoolModel" 90 (mnm mi_Mod_know) ∈ lw_g := in_tbl 706 (by decide +kernel)
theorem ml_Mod_93 : Cond.methodLink "GuardedPoolModel" 93 (mnm mi_Mod_asks) ∈ lw_g := in_tbl 710 (by decide +kernel)
theorem ml_Mod_62 : Cond.methodLink "GuardedPoolModel" 62 (mnm mi_Mod_taken) ∈ lw_g := in_tbl 714 (by decide +kernel)
theorem ml_Law_21 : Cond.methodLink "GuardedPoolLaw" 21 (mnm mi_Mod_giveBack) ∈ lw_g := in_tbl 718 (by decide +kernel)
theorem ml_Mod_96 : Cond.methodLink "GuardedPoolModel" 96 (mnm mi_Mod_backFault) ∈ lw_g := in_tbl 722 (by decide +kernel)
theorem ml_Mod_78 : Cond.methodLink "GuardedPoolModel" 78 (mnm mi_Mod_beginOf) ∈ lw_g := in_tbl 726 (by decide +kernel)
theorem ml_Mod_84 : Cond.methodLink "GuardedPoolModel" 84 (mnm mi_Mod_frees) ∈ lw_g := in_tbl 730 (by decide +kernel)
theorem ml_Mod_65 : Cond.methodLink "GuardedPoolModel" 65 (mnm mi_Mod_broken) ∈ lw_g := in_tbl 734 (by decide +kernel)
theorem ml_Law_26 : Cond.methodLink "GuardedPoolLaw" 26 (mnm mi_Mod_write) ∈ lw_g := in_tbl 738 (by decide +kernel)
theorem ml_Mod_46 : Cond.methodLink "GuardedPoolModel" 46 (mnm mi_Mod_beginAt) ∈ lw_g := in_tbl 742 (by decide +kernel)
theorem ml_Mod_99 : Cond.methodLink "GuardedPoolModel" 99 (mnm mi_Mod_isGuard) ∈ lw_g := in_tbl 746 (by decide +kernel)
theorem ml_Law_31 : Cond.methodLink "GuardedPoolLaw" 31 (mnm mi_Mod_touch) ∈ lw_g := in_tbl 750 (by decide +kernel)
theorem ml_Mod_102 : Cond.methodLink "GuardedPoolModel" 102 (mnm mi_Mod_puts) ∈ lw_g := in_tbl 754 (by decide +kernel)
theorem ml_Law_36 : Cond.methodLink "GuardedPoolLaw" 36 (mnm mi_Mod_live) ∈ lw_g := in_tbl 758 (by decide +kernel)
theorem ml_Mod_105 : Cond.methodLink "GuardedPoolModel" 105 (mnm mi_Mod_blocksOf) ∈ lw_g := in_tbl 762 (by decide +kernel)
theorem ml_Law_40 : Cond.methodLink "GuardedPoolLaw" 40 (mnm mi_Mod_setLimit) ∈ lw_g := in_tbl 766 (by decide +kernel)
theorem ml_Law_44 : Cond.methodLink "GuardedPoolLaw" 44 (mnm mi_Mod_setPatience) ∈ lw_g := in_tbl 770 (by decide +kernel)
theorem ml_Law_48 : Cond.methodLink "GuardedPoolLaw" 48 (mnm mi_Mod_pass) ∈ lw_g := in_tbl 774 (by decide +kernel)
theorem ml_Mod_108 : Cond.methodLink "GuardedPoolModel" 108 (mnm mi_Mod_passFault) ∈ lw_g := in_tbl 778 (by decide +kernel)
theorem ml_Mod_111 : Cond.methodLink "GuardedPoolModel" 111 (mnm mi_Mod_passes) ∈ lw_g := in_tbl 782 (by decide +kernel)
theorem ml_Mod_81 : Cond.methodLink "GuardedPoolModel" 81 (mnm mi_Mod_leaks) ∈ lw_g := in_tbl 786 (by decide +kernel)
theorem ml_Mod_68 : Cond.methodLink "GuardedPoolModel" 68 (mnm mi_Mod_isLeak) ∈ lw_g := in_tbl 790 (by decide +kernel)
theorem ml_Law_53 : Cond.methodLink "GuardedPoolLaw" 53 (mnm mi_Mod_sweep) ∈ lw_g := in_tbl 794 (by decide +kernel)
theorem ml_Mod_114 : Cond.methodLink "GuardedPoolModel" 114 (mnm mi_Mod_sweeps) ∈ lw_g := in_tbl 798 (by decide +kernel)
theorem ml_Law_58 : Cond.methodLink "GuardedPoolLaw" 58 (mnm mi_Mod_type) ∈ lw_g := in_tbl 802 (by decide +kernel)
theorem ml_Law_62 : Cond.methodLink "GuardedPoolLaw" 62 (mnm mi_Mod_clearText) ∈ lw_g := in_tbl 806 (by decide +kernel)
theorem ml_Law_66 : Cond.methodLink "GuardedPoolLaw" 66 (mnm mi_Mod_perform) ∈ lw_g := in_tbl 810 (by decide +kernel)
theorem ml_Mod_152 : Cond.methodLink "GuardedPoolModel" 152 (mnm mi_Mod_go) ∈ lw_g := in_tbl 814 (by decide +kernel)
theorem ml_Mod_146 : Cond.methodLink "GuardedPoolModel" 146 (mnm mi_Mod_read) ∈ lw_g := in_tbl 818 (by decide +kernel)
theorem ml_Mod_134 : Cond.methodLink "GuardedPoolModel" 134 (mnm mi_Mod_number) ∈ lw_g := in_tbl 822 (by decide +kernel)
theorem ml_Mod_128 : Cond.methodLink "GuardedPoolModel" 128 (mnm mi_Mod_sign) ∈ lw_g := in_tbl 826 (by decide +kernel)
theorem ml_Mod_149 : Cond.methodLink "GuardedPoolModel" 149 (mnm mi_Mod_does) ∈ lw_g := in_tbl 830 (by decide +kernel)
theorem ml_Mod_156 : Cond.methodLink "GuardedPoolModel" 156 (mnm mi_Mod_putAside) ∈ lw_g := in_tbl 834 (by decide +kernel)
theorem ml_Mod_159 : Cond.methodLink "GuardedPoolModel" 159 (mnm mi_Mod_putBack) ∈ lw_g := in_tbl 838 (by decide +kernel)
theorem ml_Law_70 : Cond.methodLink "GuardedPoolLaw" 70 (mnm mi_Mod_stopped) ∈ lw_g := in_tbl 842 (by decide +kernel)
theorem ml_Law_74 : Cond.methodLink "GuardedPoolLaw" 74 (mnm mi_Mod_undo) ∈ lw_g := in_tbl 846 (by decide +kernel)
theorem ml_Law_78 : Cond.methodLink "GuardedPoolLaw" 78 (mnm mi_Mod_keep) ∈ lw_g := in_tbl 850 (by decide +kernel)
theorem ml_Mod_165 : Cond.methodLink "GuardedPoolModel" 165 (mnm mi_Mod_owned) ∈ lw_g := in_tbl 854 (by decide +kernel)
theorem ml_Law_82 : Cond.methodLink "GuardedPoolLaw" 82 (mnm mi_Mod_restore) ∈ lw_g := in_tbl 858 (by decide +kernel)
theorem ml_Law_86 : Cond.methodLink "GuardedPoolLaw" 86 (mnm mi_Mod_block) ∈ lw_g := in_tbl 862 (by decide +kernel)
theorem ml_Mod_168 : Cond.methodLink "GuardedPoolModel" 168 (mnm mi_Mod_sizeNumber) ∈ lw_g := in_tbl 866 (by decide +kernel)
theorem ml_Law_90 : Cond.methodLink "GuardedPoolLaw" 90 (mnm mi_Mod_word) ∈ lw_g := in_tbl 869 (by decide +kernel)
theorem ml_Law_94 : Cond.methodLink "GuardedPoolLaw" 94 (mnm mi_Mod_task) ∈ lw_g := in_tbl 873 (by decide +kernel)
theorem ml_Mod_171 : Cond.methodLink "GuardedPoolModel" 171 (mnm mi_Mod_asked) ∈ lw_g := in_tbl 877 (by decide +kernel)
theorem ml_Law_98 : Cond.methodLink "GuardedPoolLaw" 98 (mnm mi_Mod_reason) ∈ lw_g := in_tbl 881 (by decide +kernel)
theorem ml_Law_102 : Cond.methodLink "GuardedPoolLaw" 102 (mnm mi_Mod_greatest) ∈ lw_g := in_tbl 885 (by decide +kernel)
theorem ml_Law_106 : Cond.methodLink "GuardedPoolLaw" 106 (mnm mi_Mod_leak) ∈ lw_g := in_tbl 889 (by decide +kernel)
theorem ml_Mod_174 : Cond.methodLink "GuardedPoolModel" 174 (mnm mi_Mod_ahead) ∈ lw_g := in_tbl 893 (by decide +kernel)
theorem ml_Law_110 : Cond.methodLink "GuardedPoolLaw" 110 (mnm mi_Mod_refused) ∈ lw_g := in_tbl 897 (by decide +kernel)
theorem ml_Law_114 : Cond.methodLink "GuardedPoolLaw" 114 (mnm mi_Mod_size) ∈ lw_g := in_tbl 901 (by decide +kernel)
theorem ml_Law_118 : Cond.methodLink "GuardedPoolLaw" 118 (mnm mi_Mod_count) ∈ lw_g := in_tbl 905 (by decide +kernel)
theorem ml_Mod_177 : Cond.methodLink "GuardedPoolModel" 177 (mnm mi_Mod_freeWords) ∈ lw_g := in_tbl 909 (by decide +kernel)
theorem fl_Blk_9 : Cond.fieldLink "GuardedPool$Block" 9 (cnm 0) (Tcl 0 0).2.1 (Tcl 0 0).2.2.1 ∈ lw_g := in_tbl 32 (by decide +kernel)
theorem fl_Sta_98 : Cond.fieldLink "GuardedPool$State" 98 (cnm 0) (Tcl 0 0).2.1 (Tcl 0 0).2.2.1 ∈ lw_g := in_tbl 33 (by decide +kernel)
theorem fl_Blk_15 : Cond.fieldLink "GuardedPool$Block" 15 (cnm 0) (Tcl 0 1).2.1 (Tcl 0 1).2.2.1 ∈ lw_g := in_tbl 34 (by decide +kernel)
theorem fl_Sta_151 : Cond.fieldLink "GuardedPool$State" 151 (cnm 0) (Tcl 0 1).2.1 (Tcl 0 1).2.2.1 ∈ lw_g := in_tbl 35 (by decide +kernel)
theorem fl_Blk_18 : Cond.fieldLink "GuardedPool$Block" 18 (cnm 0) (Tcl 0 2).2.1 (Tcl 0 2).2.2.1 ∈ lw_g := in_tbl 36 (by decide +kernel)
theorem fl_Sta_75 : Cond.fieldLink "GuardedPool$State" 75 (cnm 0) (Tcl 0 2).2.1 (Tcl 0 2).2.2.1 ∈ lw_g := in_tbl 37 (by decide +kernel)
theorem fl_Blk_21 : Cond.fieldLink "GuardedPool$Block" 21 (cnm 0) (Tcl 0 3).2.1 (Tcl 0 3).2.2.1 ∈ lw_g := in_tbl 38 (by decide +kernel)
theorem fl_Sta_78 : Cond.fieldLink "GuardedPool$State" 78 (cnm 0) (Tcl 0 3).2.1 (Tcl 0 3).2.2.1 ∈ lw_g := in_tbl 39 (by decide +kernel)
theorem fl_Blk_24 : Cond.fieldLink "GuardedPool$Block" 24 (cnm 0) (Tcl 0 4).2.1 (Tcl 0 4).2.2.1 ∈ lw_g := in_tbl 40 (by decide +kernel)
theorem fl_Sta_81 : Cond.fieldLink "GuardedPool$State" 81 (cnm 0) (Tcl 0 4).2.1 (Tcl 0 4).2.2.1 ∈ lw_g := in_tbl 41 (by decide +kernel)
theorem fl_Blk_27 : Cond.fieldLink "GuardedPool$Block" 27 (cnm 0) (Tcl 0 5).2.1 (Tcl 0 5).2.2.1 ∈ lw_g := in_tbl 42 (by decide +kernel)
theorem fl_Sta_84 : Cond.fieldLink "GuardedPool$State" 84 (cnm 0) (Tcl 0 5).2.1 (Tcl 0 5).2.2.1 ∈ lw_g := in_tbl 43 (by decide +kernel)
theorem fl_Tsk_9 : Cond.fieldLink "GuardedPool$Task" 9 (cnm 4) (Tcl 4 0).2.1 (Tcl 4 0).2.2.1 ∈ lw_g := in_tbl 64 (by decide +kernel)
theorem fl_Sta_104 : Cond.fieldLink "GuardedPool$State" 104 (cnm 4) (Tcl 4 0).2.1 (Tcl 4 0).2.2.1 ∈ lw_g := in_tbl 65 (by decide +kernel)
theorem fl_Tsk_15 : Cond.fieldLink "GuardedPool$Task" 15 (cnm 4) (Tcl 4 1).2.1 (Tcl 4 1).2.2.1 ∈ lw_g := in_tbl 66 (by decide +kernel)
theorem fl_Sta_127 : Cond.fieldLink "GuardedPool$State" 127 (cnm 4) (Tcl 4 1).2.1 (Tcl 4 1).2.2.1 ∈ lw_g := in_tbl 67 (by decide +kernel)
theorem fl_Tsk_19 : Cond.fieldLink "GuardedPool$Task" 19 (cnm 4) (Tcl 4 2).2.1 (Tcl 4 2).2.2.1 ∈ lw_g := in_tbl 68 (by decide +kernel)
theorem fl_Sta_115 : Cond.fieldLink "GuardedPool$State" 115 (cnm 4) (Tcl 4 2).2.1 (Tcl 4 2).2.2.1 ∈ lw_g := in_tbl 69 (by decide +kernel)
theorem fl_Sta_11 : Cond.fieldLink "GuardedPool$State" 11 (cnm 3) (Tcl 3 0).2.1 (Tcl 3 0).2.2.1 ∈ lw_g := in_tbl 78 (by decide +kernel)
theorem fl_Sta_20 : Cond.fieldLink "GuardedPool$State" 20 (cnm 3) (Tcl 3 1).2.1 (Tcl 3 1).2.2.1 ∈ lw_g := in_tbl 79 (by decide +kernel)
theorem fl_Sta_26 : Cond.fieldLink "GuardedPool$State" 26 (cnm 3) (Tcl 3 2).2.1 (Tcl 3 2).2.2.1 ∈ lw_g := in_tbl 80 (by decide +kernel)
theorem fl_Sta_48 : Cond.fieldLink "GuardedPool$State" 48 (cnm 3) (Tcl 3 3).2.1 (Tcl 3 3).2.2.1 ∈ lw_g := in_tbl 81 (by decide +kernel)
theorem fl_Sta_31 : Cond.fieldLink "GuardedPool$State" 31 (cnm 3) (Tcl 3 4).2.1 (Tcl 3 4).2.2.1 ∈ lw_g := in_tbl 82 (by decide +kernel)
theorem fl_Sta_51 : Cond.fieldLink "GuardedPool$State" 51 (cnm 3) (Tcl 3 5).2.1 (Tcl 3 5).2.2.1 ∈ lw_g := in_tbl 83 (by decide +kernel)
theorem fl_Sta_54 : Cond.fieldLink "GuardedPool$State" 54 (cnm 3) (Tcl 3 6).2.1 (Tcl 3 6).2.2.1 ∈ lw_g := in_tbl 84 (by decide +kernel)
theorem fl_Sta_57 : Cond.fieldLink "GuardedPool$State" 57 (cnm 3) (Tcl 3 7).2.1 (Tcl 3 7).2.2.1 ∈ lw_g := in_tbl 85 (by decide +kernel)
theorem fl_Sta_60 : Cond.fieldLink "GuardedPool$State" 60 (cnm 3) (Tcl 3 8).2.1 (Tcl 3 8).2.2.1 ∈ lw_g := in_tbl 86 (by decide +kernel)
theorem fl_His_11 : Cond.fieldLink "GuardedPool$History" 11 (cnm 2) (Tcl 2 0).2.1 (Tcl 2 0).2.2.1 ∈ lw_g := in_tbl 115 (by decide +kernel)
theorem fl_His_22 : Cond.fieldLink "GuardedPool$History" 22 (cnm 2) (Tcl 2 1).2.1 (Tcl 2 1).2.2.1 ∈ lw_g := in_tbl 116 (by decide +kernel)
theorem fl_His_18 : Cond.fieldLink "GuardedPool$History" 18 (cnm 2) (Tcl 2 2).2.1 (Tcl 2 2).2.2.1 ∈ lw_g := in_tbl 117 (by decide +kernel)
theorem fl_Txt_48 : Cond.fieldLink "GuardedPool$Text" 48 (cnm 1) (Tcl 1 0).2.1 (Tcl 1 0).2.2.1 ∈ lw_g := in_tbl 138 (by decide +kernel)
theorem fl_Poo_164 : Cond.fieldLink "GuardedPool" 164 (cnm 1) (Tcl 1 0).2.1 (Tcl 1 0).2.2.1 ∈ lw_g := in_tbl 139 (by decide +kernel)
theorem fl_Txt_59 : Cond.fieldLink "GuardedPool$Text" 59 (cnm 1) (Tcl 1 1).2.1 (Tcl 1 1).2.2.1 ∈ lw_g := in_tbl 140 (by decide +kernel)
theorem fl_Poo_169 : Cond.fieldLink "GuardedPool" 169 (cnm 1) (Tcl 1 1).2.1 (Tcl 1 1).2.2.1 ∈ lw_g := in_tbl 141 (by decide +kernel)
theorem fl_Txt_62 : Cond.fieldLink "GuardedPool$Text" 62 (cnm 1) (Tcl 1 2).2.1 (Tcl 1 2).2.2.1 ∈ lw_g := in_tbl 142 (by decide +kernel)
theorem fl_Poo_172 : Cond.fieldLink "GuardedPool" 172 (cnm 1) (Tcl 1 2).2.1 (Tcl 1 2).2.2.1 ∈ lw_g := in_tbl 143 (by decide +kernel)
theorem fl_Txt_9 : Cond.fieldLink "GuardedPool$Text" 9 (cnm 5) (Tcl 5 0).2.1 (Tcl 5 0).2.2.1 ∈ lw_g := in_tbl 152 (by decide +kernel)
theorem fl_Txt_22 : Cond.fieldLink "GuardedPool$Text" 22 (cnm 5) (Tcl 5 1).2.1 (Tcl 5 1).2.2.1 ∈ lw_g := in_tbl 153 (by decide +kernel)
theorem fl_Txt_17 : Cond.fieldLink "GuardedPool$Text" 17 (cnm 5) (Tcl 5 2).2.1 (Tcl 5 2).2.2.1 ∈ lw_g := in_tbl 154 (by decide +kernel)
theorem fl_Txt_26 : Cond.fieldLink "GuardedPool$Text" 26 (cnm 5) (Tcl 5 3).2.1 (Tcl 5 3).2.2.1 ∈ lw_g := in_tbl 155 (by decide +kernel)
theorem fl_Txt_29 : Cond.fieldLink "GuardedPool$Text" 29 (cnm 5) (Tcl 5 4).2.1 (Tcl 5 4).2.2.1 ∈ lw_g := in_tbl 156 (by decide +kernel)
theorem fl_Txt_32 : Cond.fieldLink "GuardedPool$Text" 32 (cnm 5) (Tcl 5 5).2.1 (Tcl 5 5).2.2.1 ∈ lw_g := in_tbl 157 (by decide +kernel)
theorem fl_Poo_10 : Cond.fieldLink "GuardedPool" 10 (cnm 6) (Tcl 6 0).2.1 (Tcl 6 0).2.2.1 ∈ lw_g := in_tbl 171 (by decide +kernel)
theorem fl_Poo_16 : Cond.fieldLink "GuardedPool" 16 (cnm 6) (Tcl 6 1).2.1 (Tcl 6 1).2.2.1 ∈ lw_g := in_tbl 172 (by decide +kernel)
theorem fl_Poo_19 : Cond.fieldLink "GuardedPool" 19 (cnm 6) (Tcl 6 2).2.1 (Tcl 6 2).2.2.1 ∈ lw_g := in_tbl 173 (by decide +kernel)
theorem fl_Poo_130 : Cond.fieldLink "GuardedPool" 130 (cnm 6) (Tcl 6 3).2.1 (Tcl 6 3).2.2.1 ∈ lw_g := in_tbl 174 (by decide +kernel)
theorem fl_Poo_25 : Cond.fieldLink "GuardedPool" 25 (cnm 6) (Tcl 6 4).2.1 (Tcl 6 4).2.2.1 ∈ lw_g := in_tbl 175 (by decide +kernel)
theorem fl_Poo_32 : Cond.fieldLink "GuardedPool" 32 (cnm 6) (Tcl 6 5).2.1 (Tcl 6 5).2.2.1 ∈ lw_g := in_tbl 176 (by decide +kernel)
theorem fl_Poo_36 : Cond.fieldLink "GuardedPool" 36 (cnm 6) (Tcl 6 6).2.1 (Tcl 6 6).2.2.1 ∈ lw_g := in_tbl 177 (by decide +kernel)
theorem fl_Poo_115 : Cond.fieldLink "GuardedPool" 115 (cnm 6) (Tcl 6 7).2.1 (Tcl 6 7).2.2.1 ∈ lw_g := in_tbl 178 (by decide +kernel)
theorem fl_Poo_119 : Cond.fieldLink "GuardedPool" 119 (cnm 6) (Tcl 6 8).2.1 (Tcl 6 8).2.2.1 ∈ lw_g := in_tbl 179 (by decide +kernel)
theorem fl_Poo_123 : Cond.fieldLink "GuardedPool" 123 (cnm 6) (Tcl 6 9).2.1 (Tcl 6 9).2.2.1 ∈ lw_g := in_tbl 180 (by decide +kernel)
theorem fl_Mod_7 : Cond.fieldLink "GuardedPoolModel" 7 (cnm 7) (Tcl 7 0).2.1 (Tcl 7 0).2.2.1 ∈ lw_g := in_tbl 617 (by decide +kernel)
theorem fl_Mod_13 : Cond.fieldLink "GuardedPoolModel" 13 (cnm 7) (Tcl 7 1).2.1 (Tcl 7 1).2.2.1 ∈ lw_g := in_tbl 618 (by decide +kernel)
theorem fl_Mod_16 : Cond.fieldLink "GuardedPoolModel" 16 (cnm 7) (Tcl 7 2).2.1 (Tcl 7 2).2.2.1 ∈ lw_g := in_tbl 619 (by decide +kernel)
theorem fl_Mod_39 : Cond.fieldLink "GuardedPoolModel" 39 (cnm 7) (Tcl 7 3).2.1 (Tcl 7 3).2.2.1 ∈ lw_g := in_tbl 620 (by decide +kernel)
theorem fl_Mod_19 : Cond.fieldLink "GuardedPoolModel" 19 (cnm 7) (Tcl 7 4).2.1 (Tcl 7 4).2.2.1 ∈ lw_g := in_tbl 621 (by decide +kernel)
theorem fl_Mod_162 : Cond.fieldLink "GuardedPoolModel" 162 (cnm 7) (Tcl 7 5).2.1 (Tcl 7 5).2.2.1 ∈ lw_g := in_tbl 622 (by decide +kernel)
theorem fl_Mod_22 : Cond.fieldLink "GuardedPoolModel" 22 (cnm 7) (Tcl 7 6).2.1 (Tcl 7 6).2.2.1 ∈ lw_g := in_tbl 623 (by decide +kernel)
theorem fl_Mod_25 : Cond.fieldLink "GuardedPoolModel" 25 (cnm 7) (Tcl 7 7).2.1 (Tcl 7 7).2.2.1 ∈ lw_g := in_tbl 624 (by decide +kernel)
theorem fl_Mod_118 : Cond.fieldLink "GuardedPoolModel" 118 (cnm 7) (Tcl 7 8).2.1 (Tcl 7 8).2.2.1 ∈ lw_g := in_tbl 625 (by decide +kernel)
theorem fl_Mod_28 : Cond.fieldLink "GuardedPoolModel" 28 (cnm 7) (Tcl 7 9).2.1 (Tcl 7 9).2.2.1 ∈ lw_g := in_tbl 626 (by decide +kernel)
theorem fl_Mod_32 : Cond.fieldLink "GuardedPoolModel" 32 (cnm 7) (Tcl 7 10).2.1 (Tcl 7 10).2.2.1 ∈ lw_g := in_tbl 627 (by decide +kernel)
theorem fl_Mod_121 : Cond.fieldLink "GuardedPoolModel" 121 (cnm 7) (Tcl 7 11).2.1 (Tcl 7 11).2.2.1 ∈ lw_g := in_tbl 628 (by decide +kernel)
theorem fl_Mod_124 : Cond.fieldLink "GuardedPoolModel" 124 (cnm 7) (Tcl 7 12).2.1 (Tcl 7 12).2.2.1 ∈ lw_g := in_tbl 629 (by decide +kernel)
theorem fl_Mod_131 : Cond.fieldLink "GuardedPoolModel" 131 (cnm 7) (Tcl 7 13).2.1 (Tcl 7 13).2.2.1 ∈ lw_g := in_tbl 630 (by decide +kernel)
theorem fl_Mod_137 : Cond.fieldLink "GuardedPoolModel" 137 (cnm 7) (Tcl 7 14).2.1 (Tcl 7 14).2.2.1 ∈ lw_g := in_tbl 631 (by decide +kernel)
theorem fl_Mod_140 : Cond.fieldLink "GuardedPoolModel" 140 (cnm 7) (Tcl 7 15).2.1 (Tcl 7 15).2.2.1 ∈ lw_g := in_tbl 632 (by decide +kernel)
theorem fl_Mod_143 : Cond.fieldLink "GuardedPoolModel" 143 (cnm 7) (Tcl 7 16).2.1 (Tcl 7 16).2.2.1 ∈ lw_g := in_tbl 633 (by decide +kernel)
theorem cl_Law_7 : Cond.classLink "GuardedPoolLaw" 7 (cnm 6) ∈ lw_g := in_tbl 11 (by decide +kernel)
theorem cl_Poo_7 : Cond.classLink "GuardedPool" 7 (cnm 3) ∈ lw_g := in_tbl 19 (by decide +kernel)
theorem cl_Sta_9 : Cond.classLink "GuardedPool$State" 9 (cnm 0) ∈ lw_g := in_tbl 25 (by decide +kernel)
theorem cl_Sta_24 : Cond.classLink "GuardedPool$State" 24 (cnm 4) ∈ lw_g := in_tbl 57 (by decide +kernel)
theorem cl_Poo_22 : Cond.classLink "GuardedPool" 22 (cnm 2) ∈ lw_g := in_tbl 106 (by decide +kernel)
theorem cl_His_9 : Cond.classLink "GuardedPool$History" 9 (cnm 3) ∈ lw_g := in_tbl 112 (by decide +kernel)
theorem cl_Poo_29 : Cond.classLink "GuardedPool" 29 (cnm 5) ∈ lw_g := in_tbl 125 (by decide +kernel)
theorem cl_Txt_15 : Cond.classLink "GuardedPool$Text" 15 (cnm 1) ∈ lw_g := in_tbl 131 (by decide +kernel)
theorem cl_Law_10 : Cond.classLink "GuardedPoolLaw" 10 (cnm 7) ∈ lw_g := in_tbl 611 (by decide +kernel)
theorem is_Poo : Cond.instantiable (cnm 6) (nfd 6) ∈ lw_g := in_tbl 12 (by decide +kernel)
theorem is_Sta : Cond.instantiable (cnm 3) (nfd 3) ∈ lw_g := in_tbl 20 (by decide +kernel)
theorem is_Blk : Cond.instantiable (cnm 0) (nfd 0) ∈ lw_g := in_tbl 27 (by decide +kernel)
theorem is_Tsk : Cond.instantiable (cnm 4) (nfd 4) ∈ lw_g := in_tbl 59 (by decide +kernel)
theorem is_His : Cond.instantiable (cnm 2) (nfd 2) ∈ lw_g := in_tbl 107 (by decide +kernel)
theorem is_Txt : Cond.instantiable (cnm 5) (nfd 5) ∈ lw_g := in_tbl 126 (by decide +kernel)
theorem is_Cmd : Cond.instantiable (cnm 1) (nfd 1) ∈ lw_g := in_tbl 133 (by decide +kernel)
theorem is_Mod : Cond.instantiable (cnm 7) (nfd 7) ∈ lw_g := in_tbl 612 (by decide +kernel)
theorem inst_obj : Cond.instanceMethod Lib.objectInit ∈ lw_g := in_tbl 17 (by decide +kernel)
theorem code_obj : Cond.code Lib.objectInit ⟨#[0xb1]⟩ 1 none ∈ lw_g := in_tbl 18 (by decide +kernel)
theorem ao_Blk : Cond.arrayOver (.object (cnm 0)) ∈ lw_tbl := in_raw 26 (by decide +kernel)
theorem ao_Tsk : Cond.arrayOver (.object (cnm 4)) ∈ lw_tbl := in_raw 58 (by decide +kernel)
theorem ac_int : Cond.arrayClass .int ∈ lw_g := in_tbl 77 (by decide +kernel)
theorem ao_Sta : Cond.arrayOver (.object (cnm 3)) ∈ lw_tbl := in_raw 113 (by decide +kernel)
theorem ao_Cmd : Cond.arrayOver (.object (cnm 1)) ∈ lw_tbl := in_raw 132 (by decide +kernel)
theorem ac_char : Cond.arrayClass .char ∈ lw_g := in_tbl 151 (by decide +kernel)
theorem stat_copy : Cond.static arraycopyName ∈ lw_g := in_tbl 215 (by decide +kernel)
theorem nat_copy : Cond.native arraycopyName ∈ lw_g := in_tbl 216 (by decide +kernel)
theorem stat_min : Cond.static Lib.Math.min.name ∈ lw_g := in_tbl 287 (by decide +kernel)
theorem code_min : Cond.code Lib.Math.min.name Lib.Math.min.code 2 (some .int) ∈ lw_g := in_tbl 288 (by decide +kernel)
end
section
/-! the world in plain words: objects by number, ints and references by object and slot; what a method does to them (SPW), its contract (MetC) -/
abbrev Vv : Type := Int ⊕ Option Int
abbrev vI (x : Int) : Vv := .inl x
abbrev vR (o : Int) : Vv := .inr (some o)
abbrev vN : Vv := .inr none
def rng (x : Int) : Prop := -2147483648 ≤ x ∧ x ≤ 2147483647
abbrev Gg : Type := va_G × (Nat → ClassId) × Nat × Nat × Nat × (Nat → Int32)
abbrev gD (G : Gg) : va_G := G.1
abbrev gA (G : Gg) : Nat → ClassId := G.2.1
abbrev gh (G : Gg) : Nat := G.2.2.1
abbrev gs (G : Gg) : Nat := G.2.2.2.1
abbrev gL (G : Gg) : Nat := G.2.2.2.2.1
abbrev gx (G : Gg) : Nat → Int32 := G.2.2.2.2.2
abbrev Mm : Type := (Int → Int → Option Int) × Nat × (Int → Int → Int)
def adr (G : Gg) (o : Int) : Nat := if o < 0 then gs G else gh G + o.toNat
def tv (G : Gg) (v : Vv) : Value := match v with
  | .inl x => .int (Int32.ofInt x)
  | .inr r => va_rf (r.map (adr G))
def vok (v : Vv) : Prop := match v with
  | .inl x => rng x
  | .inr _ => True
theorem tv_cat (G : Gg) (v : Vv) : (tv G v).category = 1 := by
  rcases v with x | (_ | o) <;> rfl
-- Int32 of an Int
theorem oi_t {a : Int} (h : rng a) : (Int32.ofInt a).toInt = a := by
  obtain ⟨h1, h2⟩ := h
  rw [Int32.toInt_ofInt]
  exact Int.bmod_eq_of_le (by show -((Int32.size : Int) / 2) ≤ a; simp [Int32.size]; omega) (by show a < ((Int32.size : Int) + 1) / 2; simp [Int32.size]; omega)
theorem oi_eq {a b : Int} (ha : rng a) (hb : rng b) : Int32.ofInt a = Int32.ofInt b ↔ a = b := ⟨fun h => by rw [← oi_t ha, ← oi_t hb, h], fun h => by rw [h]⟩
theorem oi_lt {a b : Int} (ha : rng a) (hb : rng b) : Int32.ofInt a < Int32.ofInt b ↔ a < b := by rw [Int32.lt_iff_toInt_lt, oi_t ha, oi_t hb]
theorem oi_le {a b : Int} (ha : rng a) (hb : rng b) : Int32.ofInt a ≤ Int32.ofInt b ↔ a ≤ b := by rw [Int32.le_iff_toInt_le, oi_t ha, oi_t hb]
theorem oi_0 : (0 : Int32) = Int32.ofInt 0 := rfl
theorem rng_0 : rng 0 := ⟨by decide, by decide⟩
theorem oi_cl {a : Int} (h : rng a) : (Int32.ofInt a).toNatClampNeg = a.toNat := by
  show (Int32.ofInt a).toInt.toNat = _
  rw [oi_t h]
theorem oi_in {a : Int} {n : Nat} (h : rng a) (h0 : 0 ≤ a) (hn : a < n) : vp_in (Int32.ofInt a) n := by
  unfold vp_in
  rw [oi_cl h, oi_0, oi_lt h rng_0]
  omega
theorem oi_nI (n : Nat) : nI n = Int32.ofInt n := rfl
theorem oi_toInt (x : Int32) : Int32.ofInt x.toInt = x := Int32.ofInt_toInt x
theorem rng_toInt (x : Int32) : rng x.toInt := ⟨x.le_toInt, by have := x.toInt_lt; omega⟩
-- kinds of objects, by their numbers
def kS (j : Int) : Nat := if j = 0 then 3 else if j = 1 then 17 else if j < 18 then 0 else if j = 18 then 10 else if j = 19 then 18 else 4
def kd (o : Int) : Nat :=
  if o < 0 then 99 else if o = 0 then 6
  else if o < 79 then kS ((o - 1) % 26)
  else if o = 79 then 2 else if o = 80 then 19
  else if o < 185 then kS ((o - 81) % 26)
  else if o = 185 then 5 else if o = 186 then 16 else if o = 187 then 20
  else if o < 218 then 1 else if o = 218 then 11
  else if o = 219 then 7 else if o = 220 then 12 else if o = 221 then 12 else if o = 222 then 13 else if o = 223 then 12 else if o = 224 then 14 else if o = 225 then 15 else 99
/-- an array's length, by its kind -/
def kl (k : Nat) : Nat := match k with
  | 10 => 64
  | 11 => 3
  | 12 => 472
  | 13 => 1888
  | 14 => 4
  | 15 => 60
  | 16 => 60
  | 17 => 16
  | 18 => 6
  | 19 => 4
  | _ => 30
/-- an array's sort: 0 int, 1 char, 2 Block, 3 Task, 4 State, 5 Command -/
def kt (k : Nat) : Nat := match k with
  | 16 => 1
  | 17 => 2
  | 18 => 3
  | 19 => 4
  | 20 => 5
  | _ => 0
def ety (a : Nat) : FieldType := match a with
  | 0 => .int
  | 1 => .char
  | 2 => .object (cnm 0)
  | 3 => .object (cnm 4)
  | 4 => .object (cnm 3)
  | _ => .object (cnm 1)
def tys_l (G : Gg) : List (ClassId × FieldType) := [(gA G 0, ety 0), (gA G 1, ety 1), (gA G 2, ety 2), (gA G 3, ety 3), (gA G 4, ety 4), (gA G 5, ety 5)]
def szo (o : Int) : Nat := if kd o < 8 then nfd (kd o) else kl (kd o)
def slt : Nat → Nat
  | 0 => 0
  | n + 1 => slt n + szo n
def fvl (G : Gg) (M : Mm) (ci : Nat) (o : Int) (k : Nat) : Value := if tyk ci k = 2 then tv G (.inr (M.1 o k)) else .int (Int32.ofInt (M.2.2 o k))
def ce (G : Gg) (M : Mm) (o : Int) : va_E :=
  if kd o < 8 then .inr (kd o, (List.range (nfd (kd o))).map (fvl G M (kd o) o))
  else if kt (kd o) < 2 then .inl (gA G (kt (kd o)), kl (kd o), .inl (fun j => Int32.ofInt (M.2.2 o j)))
  else .inl (gA G (kt (kd o)), kl (kd o), .inr (.inr (.inr (.inr (fun j => (M.1 o j).map (adr G))))))
def wl (G : Gg) (M : Mm) : va_W := (List.range M.2.1).map (fun i => (gh G + i, ce G M (i : Int)))
/-- the law's script is object -1, its length at -1 -/
def scr (G : Gg) (μ : Int → Int → Int) : Prop := μ (-1) (-1) = (gL G : Int) ∧ ∀ j : Nat, j < gL G → Int32.ofInt (μ (-1) j) = gx G j
/-- the heap holds the memory; how long it is matters while cells are still made -/
def Rep (G : Gg) (M : Mm) (H : Heap) : Prop := va_P (gD G) cls_l (wl G M) H ∧ (M.2.1 < 226 → H.size = gh G + M.2.1) ∧ (∀ o k, rng (M.2.2 o k)) ∧ scr G M.2.2
def vk (t : Nat) (o : Int) (ci : Nat) : Prop := 0 ≤ o ∧ o < t ∧ kd o = ci
theorem adr_pos {G : Gg} {o : Int} (h : 0 ≤ o) : adr G o = gh G + o.toNat := by
  unfold adr
  rw [if_neg (by omega)]
theorem wl_get {G : Gg} {M : Mm} {o : Int} (h0 : 0 ≤ o) (ht : o < M.2.1) : (wl G M)[o.toNat]? = some (adr G o, ce G M o) := by
  unfold wl
  rw [List.getElem?_map, List.getElem?_range (by omega), Option.map_some, adr_pos h0, Int.toNat_of_nonneg h0]
theorem wl_set {G : Gg} {M M' : Mm} {o : Int} (h0 : 0 ≤ o) (ht : M'.2.1 = M.2.1) (h : ∀ i : Int, i ≠ o → ce G M' i = ce G M i) {e : va_E} (he : ce G M' o = e) : (wl G M).set o.toNat (adr G o, e) = wl G M' := by
  subst he
  apply List.ext_getElem?
  intro i
  rw [List.getElem?_set]
  unfold wl
  simp only [List.getElem?_map, List.length_map, List.length_range, ht]
  by_cases hi : o.toNat = i
  · subst hi
    rw [if_pos rfl]
    by_cases hl : o.toNat < M.2.1
    · rw [if_pos hl, List.getElem?_range hl, Option.map_some, adr_pos h0, Int.toNat_of_nonneg h0]
    · rw [if_neg hl, List.getElem?_eq_none (by simp; omega)]
      rfl
  · rw [if_neg hi]
    by_cases hl : i < M.2.1
    · rw [List.getElem?_range hl, Option.map_some, Option.map_some, h i (by omega)]
    · rw [List.getElem?_eq_none (by simp; omega)]
      rfl
theorem wl_D {G : Gg} {M : Mm} : va_D (fun q : Nat => gh G ≤ q) (wl G M) := by
  have key : ∀ (i : Nat) (p : Nat × va_E), (wl G M)[i]? = some p → p.1 = gh G + i := by
    intro i p h
    unfold wl at h
    rw [List.getElem?_map] at h
    by_cases hl : i < M.2.1
    · rw [List.getElem?_range hl] at h
      cases h
      rfl
    · rw [List.getElem?_eq_none (by simp; omega)] at h
      cases h
  refine ⟨fun i j p q hp hq e => ?_, fun k q hq => ?_⟩
  · rw [key i p hp, key j q hq] at e
    omega
  · show gh G ≤ q.1
    rw [key k q hq]
    omega
def upM (μ : Int → Int → Int) (o k v : Int) : Int → Int → Int := fun o' k' => if o' = o ∧ k' = k then v else μ o' k'
def upR (ρ : Int → Int → Option Int) (o k : Int) (v : Option Int) : Int → Int → Option Int := fun o' k' => if o' = o ∧ k' = k then v else ρ o' k'
theorem ce_congr {G : Gg} {M M' : Mm} {o : Int} (h1 : ∀ k : Nat, M'.1 o k = M.1 o k) (h2 : ∀ k : Nat, M'.2.2 o k = M.2.2 o k) : ce G M' o = ce G M o := by
  have e1 : fvl G M' (kd o) o = fvl G M (kd o) o := by
    funext k
    unfold fvl
    rw [h1, h2]
  unfold ce
  rw [e1]
  simp only [h1, h2]
theorem fvl_at {G : Gg} {M : Mm} {ci : Nat} {o : Int} {k : Nat} (hk : k < nfd ci) : ((List.range (nfd ci)).map (fvl G M ci o))[k]? = some (fvl G M ci o k) := by
  rw [List.getElem?_map, List.getElem?_range hk]
  rfl
theorem ce_obj {G : Gg} {M : Mm} {o : Int} {ci : Nat} (h : kd o = ci) (hc : ci < 8) : ce G M o = .inr (ci, (List.range (nfd ci)).map (fvl G M ci o)) := by
  subst h
  unfold ce
  rw [if_pos hc]
theorem ce_int {G : Gg} {M : Mm} {o : Int} {q : Nat} (h : kd o = q) (hc : ¬ q < 8) (ht : kt q < 2) : ce G M o = .inl (gA G (kt q), kl q, .inl (fun j => Int32.ofInt (M.2.2 o j))) := by
  subst h
  unfold ce
  rw [if_neg hc, if_pos ht]
theorem ce_ref {G : Gg} {M : Mm} {o : Int} {q : Nat} (h : kd o = q) (hc : ¬ q < 8) (ht : ¬ kt q < 2) : ce G M o = .inl (gA G (kt q), kl q, .inr (.inr (.inr (.inr (fun j => (M.1 o j).map (adr G)))))) := by
  subst h
  unfold ce
  rw [if_neg hc, if_neg ht]
def LocOK (G : Gg) (ls : Array Slot) (n : Nat) (L : List (Option Vv)) : Prop := ls.size = n ∧ lv_wf ls ∧ L.length = n ∧ ∀ (i : Nat) (v : Vv), L[i]? = some (some v) → ls[i]? = some (.val (tv G v)) ∧ vok v
/-- words of the start that no list of words carries -/
def Xw (s : State) : Prop := va_AO (cnm 0) s ∧ va_AO (cnm 4) s ∧ va_AO (cnm 3) s ∧ va_AO (cnm 1) s ∧ va_Nw (.methodLinkNest "GuardedPool$Text" 21 (mnm mi_Cmd_init) "GuardedPool") s
def retI (r : Option FieldType) : Instr := match r with
  | none => .return_
  | some (.object _) => .areturn
  | some (.array _) => .areturn
  | some _ => .ireturn
def Cx (G : Gg) (y : MI) (p : Program) (s : State) (m : MethodId) (args : Array Value) (meth : Method) (c : Code) : Prop :=
  p.tables.exec = Jvm.exec ∧ c.code = mbc y ∧ c.maxLocals = mml y ∧ s.vm.findClass (mnm y).cls = some m.cls ∧ (∀ w ∈ lw_g, w.before args s = true) ∧ va_K (gD G) cls_l (tys_l G) s ∧ Xw s ∧ ((mnm y).name = "<init>" → meth.name = "<init>") ∧ gh G ≤ s.heap.size ∧ ((mnm y).name = "law" → va_X (gs G) (gL G) (gx G) s s.heap ∧ gs G < gh G)
abbrev Ah (G : Gg) : Nat → Prop := fun q => gh G ≤ q
/-- from this place of method y the method goes on to return r, with the memory Mf; t0: how many objects there were at its start -/
def SPW (y : MI) (t0 pc : Nat) (L : List (Option Vv)) (S : List Vv) (M : Mm) (r : Option Vv) (Mf : Mm) : Prop :=
  ∀ (G : Gg) (p : Program) (l : Launch) (e : Env) (s : State) (m : MethodId) (args : Array Value) (below : List Frame) (meth : Method) (c : Code) (H : Heap) (locs : List Loc) (ls : Array Slot) (Z : State → Prop),
    Cx G y p s m args meth c → Rep G M H → LocOK G ls (mml y) L → (∀ v ∈ S, vok v) → va_S (Ah G) s.heap H locs →
    (∀ (H' : Heap) (locs' : List Loc) (ls' : Array Slot) (pc' : Nat), Rep G Mf H' → va_S (Ah G) s.heap H' locs' → (∀ v, r = some v → vok v) → decode (mbc y) pc' = .ok (retI (mrt y), 1) →
      W p l e (mrm y) s m args below meth c H' locs' (Mf.2.1 - t0) (slt Mf.2.1 - slt t0) Z (F0 m pc' ls' (r.toList.map (tv G)))) →
    W p l e (mrm y) s m args below meth c H locs (M.2.1 - t0) (slt M.2.1 - slt t0) Z (F0 m pc ls (S.map (tv G)))
abbrev wsM (y : MI) : List Cond := Cond.code (mnm y) (mbc y) (mml y) (mrt y) :: lw_g
def MetP (G : Gg) (as : List Vv) (M : Mm) (U : State) : Prop := Rep G M U.heap ∧ va_K (gD G) cls_l (tys_l G) U ∧ Xw U ∧ ∀ v ∈ as, vok v
def MetQ (G : Gg) (r : Option Vv) (Mf : Mm) : Array Value → State → Outcome → State → Prop := fun _ st o t => o = .returned (r.map (tv G)) ∧ Rep G Mf t.heap ∧ (∀ v, r = some v → vok v) ∧ va_F (Ah G) st t
/-- method y's contract: called with these arguments over the memory M it returns r and leaves Mf -/
def MetC (y : MI) (as : List Vv) (M : Mm) (r : Option Vv) (Mf : Mm) : Prop :=
  ∀ (l : Launch) (G : Gg), Met l (mnm y) (wsM y) (mrm y) (va_Pc (as.map (tv G)) (MetP G as M)) (MetQ G r Mf) (Mf.2.1 - M.2.1) (slt Mf.2.1 - slt M.2.1) (Ah G)
/-- what a method may return, by its type -/
def rOK (rt : Option FieldType) (r : Option Vv) : Prop := match rt, r with
  | none, none => True
  | some .int, some (.inl _) => True
  | some .boolean, some (.inl x) => x = 0 ∨ x = 1
  | some .char, some (.inl x) => 0 ≤ x ∧ x < 65536
  | some (.object _), some (.inr _) => True
  | _, _ => False
end
section
/-! one row an instruction, over SPW: locals, numbers, branches -/
def Dc (y : MI) (pc : Nat) (i : Instr) (n pc' : Nat) : Prop := decode (mbc y) pc = .ok (i, n) ∧ pc + n = pc'
def Db (y : MI) (pc : Nat) (i : Instr) (off : Int) (pc' tgt : Nat) : Prop := decode (mbc y) pc = .ok (i, 3) ∧ pc + 3 = pc' ∧ (pc : Int) + off = (tgt : Int)
theorem vok_c {v : Vv} {S : List Vv} (h : vok v) (hS : ∀ w ∈ S, vok w) : ∀ w ∈ v :: S, vok w := List.forall_mem_cons.mpr ⟨h, hS⟩
theorem vok_h {v : Vv} {S : List Vv} (hS : ∀ w ∈ v :: S, vok w) : vok v := (List.forall_mem_cons.mp hS).1
theorem vok_t {v : Vv} {S : List Vv} (hS : ∀ w ∈ v :: S, vok w) : ∀ w ∈ S, vok w := (List.forall_mem_cons.mp hS).2
def lvL (G : Gg) (L : List (Option Vv)) : List (Nat × Value) := (List.range L.length).filterMap (fun i => (L[i]?.join).map (fun v => (i, tv G v)))
theorem lvL_mem {G : Gg} {L : List (Option Vv)} {i : Nat} {w : Value} (h : (i, w) ∈ lvL G L) : ∃ v, L[i]? = some (some v) ∧ w = tv G v := by
  obtain ⟨j, -, hj⟩ := List.mem_filterMap.mp h
  rw [Option.map_eq_some_iff] at hj
  obtain ⟨v, hv, he⟩ := hj
  cases he
  exact ⟨v, by simpa [Option.join_eq_some_iff] using hv, rfl⟩
theorem lvL_in {G : Gg} {L : List (Option Vv)} {i : Nat} {v : Vv} (h : L[i]? = some (some v)) : (i, tv G v) ∈ lvL G L := by
  refine List.mem_filterMap.mpr ⟨i, List.mem_range.mpr (List.getElem?_eq_some_iff.mp h).1, ?_⟩
  rw [h]
  rfl
theorem LocOK.has {G : Gg} {ls : Array Slot} {n : Nat} {L : List (Option Vv)} (h : LocOK G ls n L) : lv_has ls n (lvL G L) := by
  refine ⟨h.1, h.2.1, fun q hq => ?_⟩
  obtain ⟨i, w⟩ := q
  obtain ⟨v, hv, rfl⟩ := lvL_mem hq
  exact (h.2.2.2 i v hv).1
theorem LocOK.of {G : Gg} {ls ls' : Array Slot} {n i : Nat} {L : List (Option Vv)} {v : Vv} (h : LocOK G ls n L) (hv : vok v) (h' : lv_has ls' n ((i, tv G v) :: (lvL G L).filter (fun q => !(q.1 == i) && !(q.1 + 1 == i && q.2.category == 2)))) : LocOK G ls' n (L.set i (some v)) := by
  refine ⟨h'.1, h'.2.1, by rw [List.length_set]; exact h.2.2.1, fun j w hj => ?_⟩
  rw [List.getElem?_set] at hj
  by_cases e : i = j
  · subst e
    rw [if_pos rfl] at hj
    by_cases hl : i < L.length
    · rw [if_pos hl] at hj
      cases hj
      exact ⟨h'.2.2 (i, tv G v) List.mem_cons_self, hv⟩
    · rw [if_neg hl] at hj
      cases hj
  · rw [if_neg e] at hj
    refine ⟨h'.2.2 (j, tv G w) (List.mem_cons_of_mem _ (List.mem_filter.mpr ⟨lvL_in hj, ?_⟩)), (h.2.2.2 j w hj).2⟩
    have c1 := tv_cat G w
    have e1 : (j == i) = false := by simpa using fun q : j = i => e q.symm
    simp [e1, c1]
section RU
variable {y : MI} {t0 pc pc' tgt : Nat} {L L' : List (Option Vv)} {S : List Vv} {M Mf : Mm} {r : Option Vv}
theorem r_iconst {n : Int} (hd : Dc y pc (.iconst n) 1 pc') (hr : rng n) (kk : SPW y t0 pc' L (vI n :: S) M r Mf) : SPW y t0 pc L S M r Mf := by
  intro G p l e s m args below meth c H locs ls Z C R Lk hS hV hfin
  obtain ⟨hd, rfl⟩ := hd
  exact lv_iconst (v := Int32.ofInt n) C.1 C.2.1 hd rfl (kk G p l e s m args below meth c H locs ls Z C R Lk (vok_c hr hS) hV hfin)
theorem r_bipush {n : Int} (hd : Dc y pc (.bipush n) 2 pc') (hr : rng n) (hn : (Int8.ofInt n).toInt32 = Int32.ofInt n) (kk : SPW y t0 pc' L (vI n :: S) M r Mf) : SPW y t0 pc L S M r Mf := by
  intro G p l e s m args below meth c H locs ls Z C R Lk hS hV hfin
  obtain ⟨hd, rfl⟩ := hd
  exact lv_bipush (v := Int32.ofInt n) C.1 C.2.1 hd hn (kk G p l e s m args below meth c H locs ls Z C R Lk (vok_c hr hS) hV hfin)
theorem r_sipush {n : Int} (hd : Dc y pc (.sipush n) 3 pc') (hr : rng n) (hn : (Int16.ofInt n).toInt32 = Int32.ofInt n) (kk : SPW y t0 pc' L (vI n :: S) M r Mf) : SPW y t0 pc L S M r Mf := by
  intro G p l e s m args below meth c H locs ls Z C R Lk hS hV hfin
  obtain ⟨hd, rfl⟩ := hd
  exact lv_sipush (v := Int32.ofInt n) C.1 C.2.1 hd hn (kk G p l e s m args below meth c H locs ls Z C R Lk (vok_c hr hS) hV hfin)
theorem r_null (hd : Dc y pc .aconst_null 1 pc') (kk : SPW y t0 pc' L (vN :: S) M r Mf) : SPW y t0 pc L S M r Mf := by
  intro G p l e s m args below meth c H locs ls Z C R Lk hS hV hfin
  obtain ⟨hd, rfl⟩ := hd
  exact lv_null C.1 C.2.1 hd (kk G p l e s m args below meth c H locs ls Z C R Lk (vok_c (v := vN) trivial hS) hV hfin)
theorem r_iloadn {k : Fin 4} {x : Int} (hd : Dc y pc (.iload_n k) 1 pc') (hL : L[(k : Nat)]? = some (some (vI x))) (kk : SPW y t0 pc' L (vI x :: S) M r Mf) : SPW y t0 pc L S M r Mf := by
  intro G p l e s m args below meth c H locs ls Z C R Lk hS hV hfin
  obtain ⟨hd, rfl⟩ := hd
  obtain ⟨h1, h2⟩ := Lk.2.2.2 _ _ hL
  exact lv_iload_n C.1 C.2.1 hd rfl h1 (kk G p l e s m args below meth c H locs ls Z C R Lk (vok_c h2 hS) hV hfin)
theorem r_iload {k : Nat} {x : Int} (hd : Dc y pc (.iload k) 2 pc') (hL : L[k]? = some (some (vI x))) (kk : SPW y t0 pc' L (vI x :: S) M r Mf) : SPW y t0 pc L S M r Mf := by
  intro G p l e s m args below meth c H locs ls Z C R Lk hS hV hfin
  obtain ⟨hd, rfl⟩ := hd
  obtain ⟨h1, h2⟩ := Lk.2.2.2 _ _ hL
  exact lv_iload C.1 C.2.1 hd h1 (kk G p l e s m args below meth c H locs ls Z C R Lk (vok_c h2 hS) hV hfin)
theorem r_aloadn {k : Fin 4} {v : Option Int} (hd : Dc y pc (.aload_n k) 1 pc') (hL : L[(k : Nat)]? = some (some (.inr v))) (kk : SPW y t0 pc' L (.inr v :: S) M r Mf) : SPW y t0 pc L S M r Mf := by
  intro G p l e s m args below meth c H locs ls Z C R Lk hS hV hfin
  obtain ⟨hd, rfl⟩ := hd
  obtain ⟨h1, h2⟩ := Lk.2.2.2 _ _ hL
  cases v with
  | none => exact lv_aload_nN C.1 C.2.1 hd rfl h1 (kk G p l e s m args below meth c H locs ls Z C R Lk (vok_c h2 hS) hV hfin)
  | some o => exact lv_aload_n C.1 C.2.1 hd rfl h1 (kk G p l e s m args below meth c H locs ls Z C R Lk (vok_c h2 hS) hV hfin)
theorem r_aload {k : Nat} {v : Option Int} (hd : Dc y pc (.aload k) 2 pc') (hL : L[k]? = some (some (.inr v))) (kk : SPW y t0 pc' L (.inr v :: S) M r Mf) : SPW y t0 pc L S M r Mf := by
  intro G p l e s m args below meth c H locs ls Z C R Lk hS hV hfin
  obtain ⟨hd, rfl⟩ := hd
  obtain ⟨h1, h2⟩ := Lk.2.2.2 _ _ hL
  cases v with
  | none => exact lv_aloadN C.1 C.2.1 hd h1 (kk G p l e s m args below meth c H locs ls Z C R Lk (vok_c h2 hS) hV hfin)
  | some o => exact lv_aload C.1 C.2.1 hd h1 (kk G p l e s m args below meth c H locs ls Z C R Lk (vok_c h2 hS) hV hfin)
theorem blt_l {G : Gg} {ls : Array Slot} {n i : Nat} {L : List (Option Vv)} (h : LocOK G ls n L) (hb : Nat.blt i L.length = true) : i < n := by
  rw [← h.2.2.1]
  exact Nat.le_of_ble_eq_true hb
theorem r_istoren {k : Fin 4} {x : Int} (hd : Dc y pc (.istore_n k) 1 pc') (hb : Nat.blt k L.length = true) (hL : L.set k (some (vI x)) = L') (kk : SPW y t0 pc' L' S M r Mf) : SPW y t0 pc L (vI x :: S) M r Mf := by
  intro G p l e s m args below meth c H locs ls Z C R Lk hS hV hfin
  obtain ⟨hd, rfl⟩ := hd
  subst hL
  exact lv_istore_n C.1 C.2.1 hd rfl Lk.has (blt_l Lk hb) rfl (fun ls' h' => kk G p l e s m args below meth c H locs ls' Z C R (Lk.of (vok_h hS) h') (vok_t hS) hV hfin)
theorem r_istore {k : Nat} {x : Int} (hd : Dc y pc (.istore k) 2 pc') (hb : Nat.blt k L.length = true) (hL : L.set k (some (vI x)) = L') (kk : SPW y t0 pc' L' S M r Mf) : SPW y t0 pc L (vI x :: S) M r Mf := by
  intro G p l e s m args below meth c H locs ls Z C R Lk hS hV hfin
  obtain ⟨hd, rfl⟩ := hd
  subst hL
  exact lv_istore C.1 C.2.1 hd Lk.has (blt_l Lk hb) rfl (fun ls' h' => kk G p l e s m args below meth c H locs ls' Z C R (Lk.of (vok_h hS) h') (vok_t hS) hV hfin)
theorem r_astoren {k : Fin 4} {v : Option Int} (hd : Dc y pc (.astore_n k) 1 pc') (hb : Nat.blt k L.length = true) (hL : L.set k (some (.inr v)) = L') (kk : SPW y t0 pc' L' S M r Mf) : SPW y t0 pc L (.inr v :: S) M r Mf := by
  intro G p l e s m args below meth c H locs ls Z C R Lk hS hV hfin
  obtain ⟨hd, rfl⟩ := hd
  subst hL
  cases v with
  | none => exact lv_astore_nN C.1 C.2.1 hd rfl Lk.has (blt_l Lk hb) rfl (fun ls' h' => kk G p l e s m args below meth c H locs ls' Z C R (Lk.of (vok_h hS) h') (vok_t hS) hV hfin)
  | some o => exact lv_astore_n C.1 C.2.1 hd rfl Lk.has (blt_l Lk hb) rfl (fun ls' h' => kk G p l e s m args below meth c H locs ls' Z C R (Lk.of (vok_h hS) h') (vok_t hS) hV hfin)
theorem r_astore {k : Nat} {v : Option Int} (hd : Dc y pc (.astore k) 2 pc') (hb : Nat.blt k L.length = true) (hL : L.set k (some (.inr v)) = L') (kk : SPW y t0 pc' L' S M r Mf) : SPW y t0 pc L (.inr v :: S) M r Mf := by
  intro G p l e s m args below meth c H locs ls Z C R Lk hS hV hfin
  obtain ⟨hd, rfl⟩ := hd
  subst hL
  cases v with
  | none => exact lv_astoreN C.1 C.2.1 hd Lk.has (blt_l Lk hb) rfl (fun ls' h' => kk G p l e s m args below meth c H locs ls' Z C R (Lk.of (vok_h hS) h') (vok_t hS) hV hfin)
  | some o => exact lv_astore C.1 C.2.1 hd Lk.has (blt_l Lk hb) rfl (fun ls' h' => kk G p l e s m args below meth c H locs ls' Z C R (Lk.of (vok_h hS) h') (vok_t hS) hV hfin)
theorem r_iinc {i : Nat} {n x : Int} (hd : Dc y pc (.iinc i n) 3 pc') (hx : L[i]? = some (some (vI x))) (hr : rng (x + n)) (hL : L.set i (some (vI (x + n))) = L') (kk : SPW y t0 pc' L' S M r Mf) : SPW y t0 pc L S M r Mf := by
  intro G p l e s m args below meth c H locs ls Z C R Lk hS hV hfin
  obtain ⟨hd, rfl⟩ := hd
  subst hL
  obtain ⟨k, hk⟩ := List.getElem?_of_mem (lvL_in (G := G) hx)
  exact lv_iinc (v := Int32.ofInt (x + n)) C.1 C.2.1 hd Lk.has hk (Int32.ofInt_add x n).symm (by rw [← Lk.2.2.1]; exact (List.getElem?_eq_some_iff.mp hx).1) rfl (fun ls' h' => kk G p l e s m args below meth c H locs ls' Z C R (Lk.of (v := vI (x + n)) hr h') hS hV hfin)
theorem r_iadd {x z : Int} (hd : Dc y pc .iadd 1 pc') (hr : rng (x + z)) (kk : SPW y t0 pc' L (vI (x + z) :: S) M r Mf) : SPW y t0 pc L (vI z :: vI x :: S) M r Mf := by
  intro G p l e s m args below meth c H locs ls Z C R Lk hS hV hfin
  obtain ⟨hd, rfl⟩ := hd
  refine lv_iadd C.1 C.2.1 hd ?_
  rw [← Int32.ofInt_add]
  exact kk G p l e s m args below meth c H locs ls Z C R Lk (vok_c hr (vok_t (vok_t hS))) hV hfin
theorem r_isub {x z : Int} (hd : Dc y pc .isub 1 pc') (hr : rng (x - z)) (kk : SPW y t0 pc' L (vI (x - z) :: S) M r Mf) : SPW y t0 pc L (vI z :: vI x :: S) M r Mf := by
  intro G p l e s m args below meth c H locs ls Z C R Lk hS hV hfin
  obtain ⟨hd, rfl⟩ := hd
  refine lv_isub C.1 C.2.1 hd ?_
  rw [← Int32.ofInt_sub]
  exact kk G p l e s m args below meth c H locs ls Z C R Lk (vok_c hr (vok_t (vok_t hS))) hV hfin
theorem r_imul {x z : Int} (hd : Dc y pc .imul 1 pc') (hr : rng (x * z)) (kk : SPW y t0 pc' L (vI (x * z) :: S) M r Mf) : SPW y t0 pc L (vI z :: vI x :: S) M r Mf := by
  intro G p l e s m args below meth c H locs ls Z C R Lk hS hV hfin
  obtain ⟨hd, rfl⟩ := hd
  refine lv_imul C.1 C.2.1 hd ?_
  rw [← Int32.ofInt_mul]
  exact kk G p l e s m args below meth c H locs ls Z C R Lk (vok_c hr (vok_t (vok_t hS))) hV hfin
theorem oi_div {x z : Int} (hx : rng x) (hz : rng z) (h0 : 0 ≤ x) (h1 : 0 < z) : Int32.ofInt x / Int32.ofInt z = Int32.ofInt (x / z) ∧ rng (x / z) := by
  have a1 : 0 ≤ x / z := Int.ediv_nonneg h0 (by omega)
  have a2 : x / z ≤ x := Int.ediv_le_self z h0
  have hq : rng (x / z) := ⟨by omega, by have := hx.2; omega⟩
  refine ⟨?_, hq⟩
  apply Int32.toInt_inj.mp
  rw [oi_t hq, Int32.toInt_div, oi_t hx, oi_t hz, Int.tdiv_eq_ediv_of_nonneg h0]
  have := oi_t hq
  rw [Int32.toInt_ofInt] at this
  exact this
theorem r_idiv {x z : Int} (hd : Dc y pc .idiv 1 pc') (h0 : 0 ≤ x) (h1 : 0 < z) (kk : SPW y t0 pc' L (vI (x / z) :: S) M r Mf) : SPW y t0 pc L (vI z :: vI x :: S) M r Mf := by
  intro G p l e s m args below meth c H locs ls Z C R Lk hS hV hfin
  obtain ⟨hd, rfl⟩ := hd
  have hz : rng z := vok_h hS
  have hx : rng x := vok_h (vok_t hS)
  obtain ⟨e1, e2⟩ := oi_div hx hz h0 h1
  refine lv_idiv C.1 C.2.1 hd (by rw [oi_0, oi_eq hz rng_0]; omega) ?_
  rw [e1]
  exact kk G p l e s m args below meth c H locs ls Z C R Lk (vok_c (v := vI (x / z)) e2 (vok_t (vok_t hS))) hV hfin
theorem r_irem {x z : Int} (hd : Dc y pc .irem 1 pc') (h0 : 0 ≤ x) (h1 : 0 < z) (kk : SPW y t0 pc' L (vI (x % z) :: S) M r Mf) : SPW y t0 pc L (vI z :: vI x :: S) M r Mf := by
  intro G p l e s m args below meth c H locs ls Z C R Lk hS hV hfin
  obtain ⟨hd, rfl⟩ := hd
  have hz : rng z := vok_h hS
  have hx : rng x := vok_h (vok_t hS)
  obtain ⟨e1, e2⟩ := oi_div hx hz h0 h1
  refine lv_irem C.1 C.2.1 hd (by rw [oi_0, oi_eq hz rng_0]; omega) ?_
  have e3 : Int32.ofInt x - Int32.ofInt x / Int32.ofInt z * Int32.ofInt z = Int32.ofInt (x % z) := by
    rw [e1, ← Int32.ofInt_mul, ← Int32.ofInt_sub, Int.emod_def, Int.mul_comm]
  rw [e3]
  have a1 : 0 ≤ x % z := Int.emod_nonneg x (by omega)
  have a2 : x % z < z := Int.emod_lt_of_pos x h1
  exact kk G p l e s m args below meth c H locs ls Z C R Lk (vok_c (v := vI (x % z)) ⟨by omega, by have := hz.2; omega⟩ (vok_t (vok_t hS))) hV hfin
theorem r_dup {v : Vv} (hd : Dc y pc .dup 1 pc') (kk : SPW y t0 pc' L (v :: v :: S) M r Mf) : SPW y t0 pc L (v :: S) M r Mf := by
  intro G p l e s m args below meth c H locs ls Z C R Lk hS hV hfin
  obtain ⟨hd, rfl⟩ := hd
  exact lv_dup C.1 C.2.1 hd (tv_cat G v) (kk G p l e s m args below meth c H locs ls Z C R Lk (vok_c (vok_h hS) hS) hV hfin)
theorem r_dup2 {v w : Vv} (hd : Dc y pc .dup2 1 pc') (kk : SPW y t0 pc' L (v :: w :: v :: w :: S) M r Mf) : SPW y t0 pc L (v :: w :: S) M r Mf := by
  intro G p l e s m args below meth c H locs ls Z C R Lk hS hV hfin
  obtain ⟨hd, rfl⟩ := hd
  exact lv_dup2_11 C.1 C.2.1 hd (tv_cat G v) (tv_cat G w) (kk G p l e s m args below meth c H locs ls Z C R Lk (vok_c (vok_h hS) (vok_c (vok_h (vok_t hS)) hS)) hV hfin)
theorem r_pop {v : Vv} (hd : Dc y pc .pop 1 pc') (kk : SPW y t0 pc' L S M r Mf) : SPW y t0 pc L (v :: S) M r Mf := by
  intro G p l e s m args below meth c H locs ls Z C R Lk hS hV hfin
  obtain ⟨hd, rfl⟩ := hd
  exact lv_pop C.1 C.2.1 hd (tv_cat G v) (kk G p l e s m args below meth c H locs ls Z C R Lk (vok_t hS) hV hfin)
theorem r_goto {off : Int} (hd : Db y pc (.goto off) off pc' tgt) (kk : SPW y t0 tgt L S M r Mf) : SPW y t0 pc L S M r Mf := by
  intro G p l e s m args below meth c H locs ls Z C R Lk hS hV hfin
  exact lv_goto C.1 C.2.1 hd.1 hd.2.2 (kk G p l e s m args below meth c H locs ls Z C R Lk hS hV hfin)
theorem r_icmp_eq {x z : Int} {off : Int} (hd : Db y pc (.if_icmp .eq off) off pc' tgt) (kt : x = z → SPW y t0 tgt L S M r Mf) (kf : ¬ (x = z) → SPW y t0 pc' L S M r Mf) : SPW y t0 pc L (vI z :: vI x :: S) M r Mf := by
  intro G p l e s m args below meth c H locs ls Z C R Lk hS hV hfin
  obtain ⟨hd, rfl, ht⟩ := hd
  have hz : rng z := vok_h hS
  have hx : rng x := vok_h (vok_t hS)
  have hS' := vok_t (vok_t hS)
  exact lv_icmp_eq C.1 C.2.1 hd ht (fun q => kt (by simpa [oi_eq hx hz] using q) G p l e s m args below meth c H locs ls Z C R Lk hS' hV hfin) (fun q => kf (by simpa [oi_eq hx hz] using q) G p l e s m args below meth c H locs ls Z C R Lk hS' hV hfin)
theorem r_if_eq {x : Int} {off : Int} (hd : Db y pc (.ifCond .eq off) off pc' tgt) (kt : x = 0 → SPW y t0 tgt L S M r Mf) (kf : ¬ (x = 0) → SPW y t0 pc' L S M r Mf) : SPW y t0 pc L (vI x :: S) M r Mf := by
  intro G p l e s m args below meth c H locs ls Z C R Lk hS hV hfin
  obtain ⟨hd, rfl, ht⟩ := hd
  have hx : rng x := vok_h hS
  have hS' := vok_t hS
  exact lv_if_eq C.1 C.2.1 hd ht (fun q => kt ((oi_eq hx rng_0).mp q) G p l e s m args below meth c H locs ls Z C R Lk hS' hV hfin) (fun q => kf (fun h => q ((oi_eq hx rng_0).mpr h)) G p l e s m args below meth c H locs ls Z C R Lk hS' hV hfin)
theorem r_icmp_ne {x z : Int} {off : Int} (hd : Db y pc (.if_icmp .ne off) off pc' tgt) (kt : x ≠ z → SPW y t0 tgt L S M r Mf) (kf : ¬ (x ≠ z) → SPW y t0 pc' L S M r Mf) : SPW y t0 pc L (vI z :: vI x :: S) M r Mf := by
  intro G p l e s m args below meth c H locs ls Z C R Lk hS hV hfin
  obtain ⟨hd, rfl, ht⟩ := hd
  have hz : rng z := vok_h hS
  have hx : rng x := vok_h (vok_t hS)
  have hS' := vok_t (vok_t hS)
  exact lv_icmp_ne C.1 C.2.1 hd ht (fun q => kt (by simpa [oi_eq hx hz] using q) G p l e s m args below meth c H locs ls Z C R Lk hS' hV hfin) (fun q => kf (by simpa [oi_eq hx hz] using q) G p l e s m args below meth c H locs ls Z C R Lk hS' hV hfin)
theorem r_if_ne {x : Int} {off : Int} (hd : Db y pc (.ifCond .ne off) off pc' tgt) (kt : x ≠ 0 → SPW y t0 tgt L S M r Mf) (kf : ¬ (x ≠ 0) → SPW y t0 pc' L S M r Mf) : SPW y t0 pc L (vI x :: S) M r Mf := by
  intro G p l e s m args below meth c H locs ls Z C R Lk hS hV hfin
  obtain ⟨hd, rfl, ht⟩ := hd
  have hx : rng x := vok_h hS
  have hS' := vok_t hS
  exact lv_if_ne C.1 C.2.1 hd ht (fun q => kt (fun h => q ((oi_eq hx rng_0).mpr h)) G p l e s m args below meth c H locs ls Z C R Lk hS' hV hfin) (fun q => kf (fun h => h ((oi_eq hx rng_0).mp q)) G p l e s m args below meth c H locs ls Z C R Lk hS' hV hfin)
theorem r_icmp_lt {x z : Int} {off : Int} (hd : Db y pc (.if_icmp .lt off) off pc' tgt) (kt : x < z → SPW y t0 tgt L S M r Mf) (kf : ¬ (x < z) → SPW y t0 pc' L S M r Mf) : SPW y t0 pc L (vI z :: vI x :: S) M r Mf := by
  intro G p l e s m args below meth c H locs ls Z C R Lk hS hV hfin
  obtain ⟨hd, rfl, ht⟩ := hd
  have hz : rng z := vok_h hS
  have hx : rng x := vok_h (vok_t hS)
  have hS' := vok_t (vok_t hS)
  exact lv_icmp_lt C.1 C.2.1 hd ht (fun q => kt (by simpa [oi_lt hx hz] using q) G p l e s m args below meth c H locs ls Z C R Lk hS' hV hfin) (fun q => kf (by simpa [oi_lt hx hz] using q) G p l e s m args below meth c H locs ls Z C R Lk hS' hV hfin)
theorem r_if_lt {x : Int} {off : Int} (hd : Db y pc (.ifCond .lt off) off pc' tgt) (kt : x < 0 → SPW y t0 tgt L S M r Mf) (kf : ¬ (x < 0) → SPW y t0 pc' L S M r Mf) : SPW y t0 pc L (vI x :: S) M r Mf := by
  intro G p l e s m args below meth c H locs ls Z C R Lk hS hV hfin
  obtain ⟨hd, rfl, ht⟩ := hd
  have hx : rng x := vok_h hS
  have hS' := vok_t hS
  exact lv_if_lt C.1 C.2.1 hd ht (fun q => kt ((oi_lt hx rng_0).mp q) G p l e s m args below meth c H locs ls Z C R Lk hS' hV hfin) (fun q => kf (fun h => q ((oi_lt hx rng_0).mpr h)) G p l e s m args below meth c H locs ls Z C R Lk hS' hV hfin)
theorem r_icmp_ge {x z : Int} {off : Int} (hd : Db y pc (.if_icmp .ge off) off pc' tgt) (kt : z ≤ x → SPW y t0 tgt L S M r Mf) (kf : ¬ (z ≤ x) → SPW y t0 pc' L S M r Mf) : SPW y t0 pc L (vI z :: vI x :: S) M r Mf := by
  intro G p l e s m args below meth c H locs ls Z C R Lk hS hV hfin
  obtain ⟨hd, rfl, ht⟩ := hd
  have hz : rng z := vok_h hS
  have hx : rng x := vok_h (vok_t hS)
  have hS' := vok_t (vok_t hS)
  exact lv_icmp_ge C.1 C.2.1 hd ht (fun q => kt (by simpa [oi_le hz hx] using q) G p l e s m args below meth c H locs ls Z C R Lk hS' hV hfin) (fun q => kf (by simpa [oi_le hz hx] using q) G p l e s m args below meth c H locs ls Z C R Lk hS' hV hfin)
theorem r_if_ge {x : Int} {off : Int} (hd : Db y pc (.ifCond .ge off) off pc' tgt) (kt : 0 ≤ x → SPW y t0 tgt L S M r Mf) (kf : ¬ (0 ≤ x) → SPW y t0 pc' L S M r Mf) : SPW y t0 pc L (vI x :: S) M r Mf := by
  intro G p l e s m args below meth c H locs ls Z C R Lk hS hV hfin
  obtain ⟨hd, rfl, ht⟩ := hd
  have hx : rng x := vok_h hS
  have hS' := vok_t hS
  exact lv_if_ge C.1 C.2.1 hd ht (fun q => kt ((oi_le rng_0 hx).mp q) G p l e s m args below meth c H locs ls Z C R Lk hS' hV hfin) (fun q => kf (fun h => q ((oi_le rng_0 hx).mpr h)) G p l e s m args below meth c H locs ls Z C R Lk hS' hV hfin)
theorem r_icmp_gt {x z : Int} {off : Int} (hd : Db y pc (.if_icmp .gt off) off pc' tgt) (kt : z < x → SPW y t0 tgt L S M r Mf) (kf : ¬ (z < x) → SPW y t0 pc' L S M r Mf) : SPW y t0 pc L (vI z :: vI x :: S) M r Mf := by
  intro G p l e s m args below meth c H locs ls Z C R Lk hS hV hfin
  obtain ⟨hd, rfl, ht⟩ := hd
  have hz : rng z := vok_h hS
  have hx : rng x := vok_h (vok_t hS)
  have hS' := vok_t (vok_t hS)
  exact lv_icmp_gt C.1 C.2.1 hd ht (fun q => kt (by simpa [oi_lt hz hx] using q) G p l e s m args below meth c H locs ls Z C R Lk hS' hV hfin) (fun q => kf (by simpa [oi_lt hz hx] using q) G p l e s m args below meth c H locs ls Z C R Lk hS' hV hfin)
theorem r_if_gt {x : Int} {off : Int} (hd : Db y pc (.ifCond .gt off) off pc' tgt) (kt : 0 < x → SPW y t0 tgt L S M r Mf) (kf : ¬ (0 < x) → SPW y t0 pc' L S M r Mf) : SPW y t0 pc L (vI x :: S) M r Mf := by
  intro G p l e s m args below meth c H locs ls Z C R Lk hS hV hfin
  obtain ⟨hd, rfl, ht⟩ := hd
  have hx : rng x := vok_h hS
  have hS' := vok_t hS
  exact lv_if_gt C.1 C.2.1 hd ht (fun q => kt ((oi_lt rng_0 hx).mp q) G p l e s m args below meth c H locs ls Z C R Lk hS' hV hfin) (fun q => kf (fun h => q ((oi_lt rng_0 hx).mpr h)) G p l e s m args below meth c H locs ls Z C R Lk hS' hV hfin)
theorem r_icmp_le {x z : Int} {off : Int} (hd : Db y pc (.if_icmp .le off) off pc' tgt) (kt : x ≤ z → SPW y t0 tgt L S M r Mf) (kf : ¬ (x ≤ z) → SPW y t0 pc' L S M r Mf) : SPW y t0 pc L (vI z :: vI x :: S) M r Mf := by
  intro G p l e s m args below meth c H locs ls Z C R Lk hS hV hfin
  obtain ⟨hd, rfl, ht⟩ := hd
  have hz : rng z := vok_h hS
  have hx : rng x := vok_h (vok_t hS)
  have hS' := vok_t (vok_t hS)
  exact lv_icmp_le C.1 C.2.1 hd ht (fun q => kt (by simpa [oi_le hx hz] using q) G p l e s m args below meth c H locs ls Z C R Lk hS' hV hfin) (fun q => kf (by simpa [oi_le hx hz] using q) G p l e s m args below meth c H locs ls Z C R Lk hS' hV hfin)
theorem r_if_le {x : Int} {off : Int} (hd : Db y pc (.ifCond .le off) off pc' tgt) (kt : x ≤ 0 → SPW y t0 tgt L S M r Mf) (kf : ¬ (x ≤ 0) → SPW y t0 pc' L S M r Mf) : SPW y t0 pc L (vI x :: S) M r Mf := by
  intro G p l e s m args below meth c H locs ls Z C R Lk hS hV hfin
  obtain ⟨hd, rfl, ht⟩ := hd
  have hx : rng x := vok_h hS
  have hS' := vok_t hS
  exact lv_if_le C.1 C.2.1 hd ht (fun q => kt ((oi_le hx rng_0).mp q) G p l e s m args below meth c H locs ls Z C R Lk hS' hV hfin) (fun q => kf (fun h => q ((oi_le hx rng_0).mpr h)) G p l e s m args below meth c H locs ls Z C R Lk hS' hV hfin)
theorem r_ifnonnullR {o off : Int} (hd : Db y pc (.ifnonnull off) off pc' tgt) (kk : SPW y t0 tgt L S M r Mf) : SPW y t0 pc L (vR o :: S) M r Mf := by
  intro G p l e s m args below meth c H locs ls Z C R Lk hS hV hfin
  exact lv_ifnonnull C.1 C.2.1 hd.1 hd.2.2 (kk G p l e s m args below meth c H locs ls Z C R Lk (vok_t hS) hV hfin)
theorem r_ifnonnullN {off : Int} (hd : Db y pc (.ifnonnull off) off pc' tgt) (kk : SPW y t0 pc' L S M r Mf) : SPW y t0 pc L (vN :: S) M r Mf := by
  intro G p l e s m args below meth c H locs ls Z C R Lk hS hV hfin
  obtain ⟨hd, rfl, ht⟩ := hd
  exact lv_ifnonnullN C.1 C.2.1 hd (kk G p l e s m args below meth c H locs ls Z C R Lk (vok_t hS) hV hfin)
theorem r_ifnullR {o off : Int} (hd : Db y pc (.ifnull off) off pc' tgt) (kk : SPW y t0 pc' L S M r Mf) : SPW y t0 pc L (vR o :: S) M r Mf := by
  intro G p l e s m args below meth c H locs ls Z C R Lk hS hV hfin
  obtain ⟨hd, rfl, ht⟩ := hd
  exact lv_ifnull C.1 C.2.1 hd (kk G p l e s m args below meth c H locs ls Z C R Lk (vok_t hS) hV hfin)
theorem r_ifnullN {off : Int} (hd : Db y pc (.ifnull off) off pc' tgt) (kk : SPW y t0 tgt L S M r Mf) : SPW y t0 pc L (vN :: S) M r Mf := by
  intro G p l e s m args below meth c H locs ls Z C R Lk hS hV hfin
  exact lv_ifnullN C.1 C.2.1 hd.1 hd.2.2 (kk G p l e s m args below meth c H locs ls Z C R Lk (vok_t hS) hV hfin)
theorem adr_inj {G : Gg} {a b : Int} (ha : 0 ≤ a) (hb : 0 ≤ b) (h : adr G a = adr G b) : a = b := by
  rw [adr_pos ha, adr_pos hb] at h
  omega
theorem r_acmp_eq {a b off : Int} (hd : Db y pc (.if_acmp .eq off) off pc' tgt) (ha : 0 ≤ a) (hb : 0 ≤ b) (kt : a = b → SPW y t0 tgt L S M r Mf) (kf : ¬ a = b → SPW y t0 pc' L S M r Mf) : SPW y t0 pc L (vR b :: vR a :: S) M r Mf := by
  intro G p l e s m args below meth c H locs ls Z C R Lk hS hV hfin
  obtain ⟨hd, rfl, ht⟩ := hd
  have hS' := vok_t (vok_t hS)
  exact lv_acmp_eq (rx := some (adr G a)) (ry := some (adr G b)) C.1 C.2.1 hd ht (fun q => kt (adr_inj ha hb (Option.some.inj q)) G p l e s m args below meth c H locs ls Z C R Lk hS' hV hfin) (fun q => kf (fun z => q (by rw [z])) G p l e s m args below meth c H locs ls Z C R Lk hS' hV hfin)
theorem r_tabIn {x dflt lo hi off : Int} {offs : Array Int} {len : Nat} (hd : decode (mbc y) pc = .ok (.tableswitch dflt lo hi offs, len)) (h1 : lo ≤ x) (h2 : x ≤ hi) (ho : offs[(x - lo).toNat]? = some off) (ht : (pc : Int) + off = (tgt : Int)) (kk : SPW y t0 tgt L S M r Mf) : SPW y t0 pc L (vI x :: S) M r Mf := by
  intro G p l e s m args below meth c H locs ls Z C R Lk hS hV hfin
  have hx : rng x := vok_h hS
  exact lv_tableIn C.1 C.2.1 hd (by rw [oi_t hx]; omega) (by rw [oi_t hx]; omega) (by rw [oi_t hx]; exact ho) ht (kk G p l e s m args below meth c H locs ls Z C R Lk (vok_t hS) hV hfin)
theorem r_tabOut {x dflt lo hi : Int} {offs : Array Int} {len : Nat} (hd : decode (mbc y) pc = .ok (.tableswitch dflt lo hi offs, len)) (h : x < lo ∨ hi < x) (ht : (pc : Int) + dflt = (tgt : Int)) (kk : SPW y t0 tgt L S M r Mf) : SPW y t0 pc L (vI x :: S) M r Mf := by
  intro G p l e s m args below meth c H locs ls Z C R Lk hS hV hfin
  have hx : rng x := vok_h hS
  exact lv_tableOut C.1 C.2.1 hd (by rw [oi_t hx]; exact h) ht (kk G p l e s m args below meth c H locs ls Z C R Lk (vok_t hS) hV hfin)
theorem r_look {x dflt off : Int} {ps : Array (Int × Int)} {len : Nat} (hd : decode (mbc y) pc = .ok (.lookupswitch dflt ps, len)) (hp : (ps.toList.zip (ps.toList.drop 1)).all (fun (a, next) => a.1 < next.1) = true) (ho : Op.lookupswitch.offset ps.toList dflt x = off) (ht : (pc : Int) + off = (tgt : Int)) (kk : SPW y t0 tgt L S M r Mf) : SPW y t0 pc L (vI x :: S) M r Mf := by
  intro G p l e s m args below meth c H locs ls Z C R Lk hS hV hfin
  have hx : rng x := vok_h hS
  exact lv_lookup C.1 C.2.1 hd hp (by rw [oi_t hx]; exact ho) ht (kk G p l e s m args below meth c H locs ls Z C R Lk (vok_t hS) hV hfin)
theorem r_i2c {x : Int} (hd : Dc y pc .i2c 1 pc') (kk : SPW y t0 pc' L (vI (x % 65536) :: S) M r Mf) : SPW y t0 pc L (vI x :: S) M r Mf := by
  intro G p l e s m args below meth c H locs ls Z C R Lk hS hV hfin
  obtain ⟨hd, rfl⟩ := hd
  have hx : rng x := vok_h hS
  have a1 : 0 ≤ x % 65536 := Int.emod_nonneg x (by omega)
  have a2 : x % 65536 < 65536 := Int.emod_lt_of_pos x (by omega)
  have hq : rng (x % 65536) := ⟨by omega, by omega⟩
  refine lv_i2c (v := Int32.ofInt (x % 65536)) C.1 C.2.1 hd ?_ (kk G p l e s m args below meth c H locs ls Z C R Lk (vok_c (v := vI (x % 65536)) hq (vok_t hS)) hV hfin)
  rw [pk_char]
  have e1 : (Int32.ofInt x).toBitVec.toNat = (x % 4294967296).toNat := by
    show (BitVec.ofInt 32 x).toNat = _
    rw [BitVec.toNat_ofInt]
    rfl
  rw [e1, oi_nI]
  congr 1
  omega
theorem r_and31 {x : Int} (hd : Dc y pc .iand 1 pc') (kk : SPW y t0 pc' L (vI (x % 32) :: S) M r Mf) : SPW y t0 pc L (vI 31 :: vI x :: S) M r Mf := by
  intro G p l e s m args below meth c H locs ls Z C R Lk hS hV hfin
  obtain ⟨hd, rfl⟩ := hd
  have hx : rng x := vok_h (vok_t hS)
  have a1 : 0 ≤ x % 32 := Int.emod_nonneg x (by omega)
  have a2 : x % 32 < 32 := Int.emod_lt_of_pos x (by omega)
  have hq : rng (x % 32) := ⟨by omega, by omega⟩
  refine lv_iand C.1 C.2.1 hd ?_
  have e2 : Int32.ofInt x &&& Int32.ofInt 31 = Int32.ofInt (x % 32) := by
    rw [pk_and (Int32.ofInt x) (m := Int32.ofInt 31) 5 rfl]
    have e1 : (Int32.ofInt x).toBitVec.toNat = (x % 4294967296).toNat := by
      show (BitVec.ofInt 32 x).toNat = _
      rw [BitVec.toNat_ofInt]
      rfl
    rw [e1, oi_nI]
    congr 1
    omega
  rw [e2]
  exact kk G p l e s m args below meth c H locs ls Z C R Lk (vok_c (v := vI (x % 32)) hq (vok_t (vok_t hS))) hV hfin
theorem r_ixor {a b : Nat} (hd : Dc y pc .ixor 1 pc') (ha : a < 2147483648) (hb : b < 2147483648) (kk : SPW y t0 pc' L (vI ((a ^^^ b : Nat) : Int) :: S) M r Mf) : SPW y t0 pc L (vI (b : Int) :: vI (a : Int) :: S) M r Mf := by
  intro G p l e s m args below meth c H locs ls Z C R Lk hS hV hfin
  obtain ⟨hd, rfl⟩ := hd
  refine lv_ixor C.1 C.2.1 hd ?_
  have hlt : a ^^^ b < 2 ^ 31 := Nat.xor_lt_two_pow ha hb
  have e2 : Int32.ofInt (a : Int) ^^^ Int32.ofInt (b : Int) = Int32.ofInt ((a ^^^ b : Nat) : Int) := by
    apply Int32.toBitVec_inj.mp
    apply BitVec.eq_of_toNat_eq
    show (BitVec.ofInt 32 (a : Int) ^^^ BitVec.ofInt 32 (b : Int)).toNat = (BitVec.ofInt 32 ((a ^^^ b : Nat) : Int)).toNat
    rw [BitVec.toNat_xor, BitVec.toNat_ofInt, BitVec.toNat_ofInt, BitVec.toNat_ofInt]
    have k1 : ∀ z : Nat, z < 2147483648 → ((z : Int) % ((2 ^ 32 : Nat) : Int)).toNat = z := fun z hz => by omega
    rw [k1 a ha, k1 b hb, k1 _ hlt]
  rw [e2]
  exact kk G p l e s m args below meth c H locs ls Z C R Lk (vok_c (v := vI ((a ^^^ b : Nat) : Int)) ⟨by omega, by omega⟩ (vok_t (vok_t hS))) hV hfin
theorem r_ishl {a k : Nat} (hd : Dc y pc .ishl 1 pc') (hk : k < 32) (ha : a * 2 ^ k < 2147483648) (kk : SPW y t0 pc' L (vI ((a * 2 ^ k : Nat) : Int) :: S) M r Mf) : SPW y t0 pc L (vI (k : Int) :: vI (a : Int) :: S) M r Mf := by
  intro G p l e s m args below meth c H locs ls Z C R Lk hS hV hfin
  obtain ⟨hd, rfl⟩ := hd
  refine lv_ishl C.1 C.2.1 hd ?_
  have e1 : Int32.ofInt (k : Int) &&& 31 = nI k := by
    rw [show Int32.ofInt (k : Int) = nI k from rfl, pk_andN (by omega) 5 rfl]
    congr 1
    omega
  have e2 : Int32.ofInt (a : Int) <<< (Int32.ofInt (k : Int) &&& 31) = Int32.ofInt ((a * 2 ^ k : Nat) : Int) := by
    rw [e1]
    exact pk_shlN (nI k) k (by
      have h32 : ∀ j, j < 32 → ((nI j).toBitVec.smod 32).toNat = j := by decide
      exact h32 k hk) (by omega)
  rw [e2]
  exact kk G p l e s m args below meth c H locs ls Z C R Lk (vok_c (v := vI ((a * 2 ^ k : Nat) : Int)) ⟨by omega, by omega⟩ (vok_t (vok_t hS))) hV hfin
theorem r_ret (hd : decode (mbc y) pc = .ok (retI (mrt y), 1)) (hS0 : S = r.toList) (hM : M = Mf) : SPW y t0 pc L S M r Mf := by
  intro G p l e s m args below meth c H locs ls Z C R Lk hS hV hfin
  subst hM
  subst hS0
  exact hfin H locs ls pc R hV (fun v h => hS v (by rw [h]; exact List.mem_cons_self)) hd
end RU
end
section
/-! fields, arrays, new cells -/
section RM
variable {y : MI} {t0 pc pc' tgt : Nat} {L L' : List (Option Vv)} {S : List Vv} {ρ : Int → Int → Option Int} {t : Nat} {μ : Int → Int → Int} {Mf : Mm} {r : Option Vv}
theorem fvl_int {G : Gg} {M : Mm} {ci : Nat} {o : Int} {k : Nat} (h : tyk ci k ≠ 2) : fvl G M ci o k = .int (Int32.ofInt (M.2.2 o k)) := if_neg h
theorem fvl_ref {G : Gg} {M : Mm} {ci : Nat} {o : Int} {k : Nat} (h : tyk ci k = 2) : fvl G M ci o k = tv G (.inr (M.1 o k)) := if_pos h
theorem r_getI {o kI : Int} {ci k idx : Nat} (hd : Dc y pc (.getfield idx) 3 pc') (hl : Cond.fieldLink (mnm y).cls idx (cnm ci) (Tcl ci k).2.1 (Tcl ci k).2.2.1 ∈ lw_g) (hk : ((k : Nat) : Int) = kI) (hc : ci < 8 ∧ k < nfd ci ∧ tyk ci k ≠ 2) (hv : vk t o ci) (kk : SPW y t0 pc' L (vI (μ o kI) :: S) (ρ, t, μ) r Mf) : SPW y t0 pc L (vR o :: S) (ρ, t, μ) r Mf := by
  intro G p l e s m args below meth c H locs ls Z C R Lk hS hV hfin
  obtain ⟨hd, rfl⟩ := hd
  subst hk
  obtain ⟨h0, h1, h2⟩ := hv
  have he := wl_get (G := G) (M := (ρ, t, μ)) h0 h1
  rw [ce_obj h2 hc.1] at he
  refine va_get C.1 C.2.1 C.2.2.2.2.1 (fun w hw => lay_ok ci hc.1 w hw) C.2.2.2.1 C.2.2.2.2.2.1 R.1 o.toNat he (cls_ok ci hc.1) k hc.2.1 (C.2.2.2.2.1 _ hl) (fun _ h => h) (fvl_at hc.2.1) hd ?_
  rw [fvl_int hc.2.2]
  exact kk G p l e s m args below meth c H locs ls Z C R Lk (vok_c (v := vI _) (R.2.2.1 o k) (vok_t hS)) hV hfin
theorem r_getR {o : Int} {kI : Int} {ci k idx : Nat} {v : Option Int} (hd : Dc y pc (.getfield idx) 3 pc') (hl : Cond.fieldLink (mnm y).cls idx (cnm ci) (Tcl ci k).2.1 (Tcl ci k).2.2.1 ∈ lw_g) (hk : ((k : Nat) : Int) = kI) (hc : ci < 8 ∧ k < nfd ci ∧ tyk ci k = 2) (hv : vk t o ci) (hr : ρ o kI = v) (kk : SPW y t0 pc' L (.inr v :: S) (ρ, t, μ) r Mf) : SPW y t0 pc L (vR o :: S) (ρ, t, μ) r Mf := by
  intro G p l e s m args below meth c H locs ls Z C R Lk hS hV hfin
  obtain ⟨hd, rfl⟩ := hd
  subst hk
  subst hr
  obtain ⟨h0, h1, h2⟩ := hv
  have he := wl_get (G := G) (M := (ρ, t, μ)) h0 h1
  rw [ce_obj h2 hc.1] at he
  refine va_get C.1 C.2.1 C.2.2.2.2.1 (fun w hw => lay_ok ci hc.1 w hw) C.2.2.2.1 C.2.2.2.2.2.1 R.1 o.toNat he (cls_ok ci hc.1) k hc.2.1 (C.2.2.2.2.1 _ hl) (fun _ h => h) (fvl_at hc.2.1) hd ?_
  rw [fvl_ref hc.2.2]
  exact kk G p l e s m args below meth c H locs ls Z C R Lk (vok_c (v := .inr (ρ o k)) trivial (vok_t hS)) hV hfin
theorem upM_rng {μ : Int → Int → Int} {o k v : Int} (h : ∀ o k, rng (μ o k)) (hv : rng v) : ∀ o' k', rng (upM μ o k v o' k') := by
  intro o' k'
  unfold upM
  split
  · exact hv
  · exact h o' k'
theorem range_set {α : Type} {n k : Nat} {f g : Nat → α} (h : ∀ j, j ≠ k → g j = f j) (v : α) (hv : g k = v) : ((List.range n).map f).set k v = (List.range n).map g := by
  subst hv
  apply List.ext_getElem?
  intro i
  rw [List.getElem?_set]
  simp only [List.getElem?_map, List.length_map, List.length_range]
  by_cases hi : k = i
  · subst hi
    rw [if_pos rfl]
    by_cases hl : k < n
    · rw [if_pos hl, List.getElem?_range hl]
      rfl
    · rw [if_neg hl, List.getElem?_eq_none (by simp; omega)]
      rfl
  · rw [if_neg hi]
    by_cases hl : i < n
    · rw [List.getElem?_range hl, Option.map_some, Option.map_some, h i (fun q => hi q.symm)]
    · rw [List.getElem?_eq_none (by simp; omega)]
      rfl
theorem upM_ne {μ : Int → Int → Int} {o k v o' k' : Int} (h : o' ≠ o ∨ k' ≠ k) : upM μ o k v o' k' = μ o' k' := by
  unfold upM
  rw [if_neg (by omega)]
theorem upM_eq {μ : Int → Int → Int} {o k v : Int} : upM μ o k v o k = v := by
  unfold upM
  rw [if_pos ⟨rfl, rfl⟩]
theorem upR_ne {ρ : Int → Int → Option Int} {o k : Int} {v : Option Int} {o' k' : Int} (h : o' ≠ o ∨ k' ≠ k) : upR ρ o k v o' k' = ρ o' k' := by
  unfold upR
  rw [if_neg (by omega)]
theorem upR_eq {ρ : Int → Int → Option Int} {o k : Int} {v : Option Int} : upR ρ o k v o k = v := by
  unfold upR
  rw [if_pos ⟨rfl, rfl⟩]
theorem scr_up {G : Gg} {μ : Int → Int → Int} {o k v : Int} (h0 : 0 ≤ o) (h : scr G μ) : scr G (upM μ o k v) := ⟨by rw [upM_ne (Or.inl (by omega))]; exact h.1, fun j hj => by rw [upM_ne (Or.inl (by omega))]; exact h.2 j hj⟩
/-- an int field is written: the world behind it -/
theorem wl_putI {G : Gg} {o x : Int} {ci k : Nat} (hc : ci < 8 ∧ k < nfd ci ∧ tyk ci k ≠ 2) (hv : vk t o ci) : (wl G (ρ, t, μ)).set o.toNat (adr G o, .inr (ci, ((List.range (nfd ci)).map (fvl G (ρ, t, μ) ci o)).set k (.int (Int32.ofInt x)))) = wl G (ρ, t, upM μ o k x) := by
  obtain ⟨h0, h1, h2⟩ := hv
  refine wl_set (M := (ρ, t, μ)) (M' := (ρ, t, upM μ o k x)) h0 rfl (fun i hi => ce_congr (fun _ => rfl) (fun j => upM_ne (Or.inl hi))) ?_
  rw [ce_obj h2 hc.1]
  congr 2
  refine (range_set (g := fvl G (ρ, t, upM μ o k x) ci o) (fun j hj => ?_) _ ?_).symm
  · unfold fvl
    dsimp only
    rw [upM_ne (Or.inr (by omega))]
  · rw [fvl_int hc.2.2]
    dsimp only
    rw [upM_eq]
theorem wl_putR {G : Gg} {o : Int} {v : Option Int} {ci k : Nat} (hc : ci < 8 ∧ k < nfd ci ∧ tyk ci k = 2) (hv : vk t o ci) : (wl G (ρ, t, μ)).set o.toNat (adr G o, .inr (ci, ((List.range (nfd ci)).map (fvl G (ρ, t, μ) ci o)).set k (tv G (.inr v)))) = wl G (upR ρ o k v, t, μ) := by
  obtain ⟨h0, h1, h2⟩ := hv
  refine wl_set (M := (ρ, t, μ)) (M' := (upR ρ o k v, t, μ)) h0 rfl (fun i hi => ce_congr (fun j => upR_ne (Or.inl hi)) (fun _ => rfl)) ?_
  rw [ce_obj h2 hc.1]
  congr 2
  refine (range_set (g := fvl G (upR ρ o k v, t, μ) ci o) (fun j hj => ?_) _ ?_).symm
  · unfold fvl
    dsimp only
    rw [upR_ne (Or.inr (by omega))]
  · rw [fvl_ref hc.2.2]
    dsimp only
    rw [upR_eq]
theorem wl_putA {G : Gg} {o i x : Int} {q : Nat} (hq : ¬ q < 8 ∧ kt q < 2) (hv : vk t o q) (h0 : 0 ≤ i) : (wl G (ρ, t, μ)).set o.toNat (adr G o, .inl (gA G (kt q), kl q, .inl (upd (fun j => Int32.ofInt (μ o j)) i.toNat (Int32.ofInt x)))) = wl G (ρ, t, upM μ o i x) := by
  obtain ⟨h1, h2, h3⟩ := hv
  refine wl_set (M := (ρ, t, μ)) (M' := (ρ, t, upM μ o i x)) h1 rfl (fun z hz => ce_congr (fun _ => rfl) (fun j => upM_ne (Or.inl hz))) ?_
  rw [ce_int h3 hq.1 hq.2]
  congr 4
  funext j
  show Int32.ofInt (upM μ o i x o j) = upd (fun j => Int32.ofInt (μ o j)) i.toNat (Int32.ofInt x) j
  by_cases hj : j = i.toNat
  · subst hj
    rw [show ((i.toNat : Nat) : Int) = i from Int.toNat_of_nonneg h0, upM_eq]
    simp [upd]
  · rw [upM_ne (Or.inr (by omega))]
    simp [upd, hj]
theorem wl_putQ {G : Gg} {o i w : Int} {q : Nat} (hq : ¬ q < 8 ∧ ¬ kt q < 2) (hv : vk t o q) (h0 : 0 ≤ i) : (wl G (ρ, t, μ)).set o.toNat (adr G o, .inl (gA G (kt q), kl q, .inr (.inr (.inr (.inr (va_up (fun j => (ρ o j).map (adr G)) i.toNat (some (adr G w)))))))) = wl G (upR ρ o i (some w), t, μ) := by
  obtain ⟨h1, h2, h3⟩ := hv
  refine wl_set (M := (ρ, t, μ)) (M' := (upR ρ o i (some w), t, μ)) h1 rfl (fun z hz => ce_congr (fun j => upR_ne (Or.inl hz)) (fun _ => rfl)) ?_
  rw [ce_ref h3 hq.1 hq.2]
  congr 7
  funext j
  show (upR ρ o i (some w) o j).map (adr G) = va_up (fun j => (ρ o j).map (adr G)) i.toNat (some (adr G w)) j
  by_cases hj : j = i.toNat
  · subst hj
    rw [show ((i.toNat : Nat) : Int) = i from Int.toNat_of_nonneg h0, upR_eq]
    simp [va_up]
  · rw [upR_ne (Or.inr (by omega))]
    simp [va_up, hj]
/-- an int or boolean field, not final or a constructor's own -/
def putOK (ci k : Nat) (x : Int) : Prop := (tyk ci k = 0 ∧ tyc ci k = .int) ∨ (tyk ci k = 1 ∧ tyc ci k = .boolean ∧ (x = 0 ∨ x = 1))
theorem putOK.fits {ci k : Nat} {x : Int} (h : putOK ci k x) : narrow (tyc ci k) (.int (Int32.ofInt x)) = .int (Int32.ofInt x) ∧ fits (tyc ci k) (.int (Int32.ofInt x)) = true ∧ tyk ci k ≠ 2 := by
  rcases h with ⟨h1, h2⟩ | ⟨h1, h2, rfl | rfl⟩
  · rw [h2]
    exact ⟨rfl, rfl, by omega⟩
  · rw [h2]
    exact ⟨rfl, rfl, by omega⟩
  · rw [h2]
    exact ⟨rfl, rfl, by omega⟩
theorem fs_len {G : Gg} {M : Mm} {ci : Nat} {o : Int} : ((List.range (nfd ci)).map (fvl G M ci o)).length = nfd ci := by rw [List.length_map, List.length_range]
theorem r_putI {o x kI : Int} {ci k idx : Nat} (hd : Dc y pc (.putfield idx) 3 pc') (hl : Cond.fieldLink (mnm y).cls idx (cnm ci) (Tcl ci k).2.1 (Tcl ci k).2.2.1 ∈ lw_g) (hk : ((k : Nat) : Int) = kI) (hc : ci < 8 ∧ k < nfd ci) (hf : (Tcl ci k).2.2.2 = false) (hx : putOK ci k x) (hv : vk t o ci) (kk : SPW y t0 pc' L S (ρ, t, upM μ o kI x) r Mf) : SPW y t0 pc L (vI x :: vR o :: S) (ρ, t, μ) r Mf := by
  intro G p l e s m args below meth c H locs ls Z C R Lk hS hV hfin
  obtain ⟨hd, rfl⟩ := hd
  subst hk
  obtain ⟨p1, p2, p3⟩ := hx.fits
  have hv0 := hv
  obtain ⟨h0, h1, h2⟩ := hv
  have he := wl_get (G := G) (M := (ρ, t, μ)) h0 h1
  rw [ce_obj h2 hc.1] at he
  have hK := C.2.2.2.2.2.1
  have hts := C.2.2.2.2.1
  have hin : ∀ w ∈ u_ws (cnm ci) (Tcl ci) (nfd ci), w ∈ lw_g := lay_ok ci hc.1
  have hap := va_apart (own := (mnm y).cls) hts hin (tyc ci) (tyc_ok ci hc.1) (nm_ok ci hc.1) hK (cls_ok ci hc.1)
  obtain ⟨rr, hr1, cell, q1, q2, q3, q4⟩ := R.1 _ _ he
  have hr : rr = (cnm ci, Tcl ci, nfd ci) := Option.some.inj (hr1.symm.trans (cls_ok ci hc.1))
  subst hr
  obtain ⟨hSl, hfc, kC, hkC, hkind⟩ := hK.1 ci _ (cls_ok ci hc.1)
  obtain ⟨cf, kf, fi, f, hi, hsl⟩ := hSl k hc.2
  have hlay := hts _ (hin _ (u_in_lay hc.2))
  unfold u_lay at hlay
  rw [if_neg (by rw [hf]; decide)] at hlay
  have hst := (u_facts hfc hkC (u_lays hts hin hc.2) hi).1
  have h6 := u_store hfc hkC hkind hlay hi (tyc_ok ci hc.1 k hc.2) p1 p2
  refine W.putK C.1 C.2.1 (f := f) ⟨C.2.2.2.1, hts _ hl, ⟨_, _, _, hi⟩, hst⟩ (by rw [q2]; exact h6) q1 q3 (by rw [hsl]; exact k2_hasslot (q4 k hc.2)) rfl rfl hd fun H' e1 e2 e3 => ?_
  rw [hsl] at e1 ⊢
  have hat : va_at (gD G) cls_l (adr G o, .inr (ci, ((List.range (nfd ci)).map (fvl G (ρ, t, μ) ci o)).set k (.int (Int32.ofInt x)))) H' := ⟨_, cls_ok ci hc.1, t_OB.to (V := updV (vp_V ((List.range (nfd ci)).map (fvl G (ρ, t, μ) ci o))) k (.int (Int32.ofInt x))) ⟨_, e1, q2, q3, t_set q4 hap hc.2 _⟩ (fun j _ => vp_updV_set (by rw [fs_len]; exact hc.2) _ j)⟩
  have hP' := R.1.set wl_D he hat e3
  rw [wl_putI ⟨hc.1, hc.2, p3⟩ hv0] at hP'
  exact kk G p l e s m args below meth c H' _ ls Z C ⟨hP', fun q => e2.trans (R.2.1 q), ⟨upM_rng R.2.2.1 (vok_h (v := vI x) hS), scr_up hv0.1 R.2.2.2⟩⟩ Lk (vok_t (vok_t hS)) (hV.put e2 e3 (wl_D.2 _ _ he)) hfin
theorem r_putIF {o x kI : Int} {ci k idx : Nat} (hd : Dc y pc (.putfield idx) 3 pc') (hl : Cond.fieldLink (mnm y).cls idx (cnm ci) (Tcl ci k).2.1 (Tcl ci k).2.2.1 ∈ lw_g) (hk : ((k : Nat) : Int) = kI) (hc : ci < 8 ∧ k < nfd ci) (hf : (Tcl ci k).2.2.2 = true) (hin0 : (mnm y).name = "<init>") (hown : cnm ci = (mnm y).cls) (hx : putOK ci k x) (hv : vk t o ci) (kk : SPW y t0 pc' L S (ρ, t, upM μ o kI x) r Mf) : SPW y t0 pc L (vI x :: vR o :: S) (ρ, t, μ) r Mf := by
  intro G p l e s m args below meth c H locs ls Z C R Lk hS hV hfin
  obtain ⟨hd, rfl⟩ := hd
  subst hk
  obtain ⟨p1, p2, p3⟩ := hx.fits
  have hv0 := hv
  obtain ⟨h0, h1, h2⟩ := hv
  have he := wl_get (G := G) (M := (ρ, t, μ)) h0 h1
  rw [ce_obj h2 hc.1] at he
  have hK := C.2.2.2.2.2.1
  have hts := C.2.2.2.2.1
  have hin : ∀ w ∈ u_ws (cnm ci) (Tcl ci) (nfd ci), w ∈ lw_g := lay_ok ci hc.1
  have hap := va_apart (own := (mnm y).cls) hts hin (tyc ci) (tyc_ok ci hc.1) (nm_ok ci hc.1) hK (cls_ok ci hc.1)
  obtain ⟨rr, hr1, cell, q1, q2, q3, q4⟩ := R.1 _ _ he
  have hr : rr = (cnm ci, Tcl ci, nfd ci) := Option.some.inj (hr1.symm.trans (cls_ok ci hc.1))
  subst hr
  obtain ⟨hSl, hfc, kC, hkC, hkind⟩ := hK.1 ci _ (cls_ok ci hc.1)
  obtain ⟨cf, kf, fi, f, hi, hsl⟩ := hSl k hc.2
  have hst := (u_facts hfc hkC (u_lays hts hin hc.2) hi).1
  have h6 := u_fits hfc hkC hkind (u_lays hts hin hc.2) hi (tyc_ok ci hc.1 k hc.2) p1 p2
  have hlay := hts _ (hin _ (u_in_lay hc.2))
  unfold u_lay at hlay
  rw [if_pos hf] at hlay
  have hcf : m.cls = cf := by
    obtain ⟨_, _, c', _, _, _, -, -, hf', -, -, -, hown2, -⟩ := Cond.laysFinal_spec hlay
    have e1 : c' = cf := by have := hi.symm.trans hf'; simp at this; exact this.1.symm
    rw [show (Tcl ci k).1 = (mnm y).cls from hown] at hown2
    rw [← e1]; exact Option.some.inj (C.2.2.2.1.symm.trans hown2)
  refine W.putFinK C.1 C.2.1 C.2.2.2.1 (hts _ hl) hi hst hcf (C.2.2.2.2.2.2.2.1 hin0) (by rw [q2]; exact h6) q1 q3 (by rw [hsl]; exact k2_hasslot (q4 k hc.2)) rfl rfl hd fun H' e1 e2 e3 => ?_
  rw [hsl] at e1 ⊢
  have hat : va_at (gD G) cls_l (adr G o, .inr (ci, ((List.range (nfd ci)).map (fvl G (ρ, t, μ) ci o)).set k (.int (Int32.ofInt x)))) H' := ⟨_, cls_ok ci hc.1, t_OB.to (V := updV (vp_V ((List.range (nfd ci)).map (fvl G (ρ, t, μ) ci o))) k (.int (Int32.ofInt x))) ⟨_, e1, q2, q3, t_set q4 hap hc.2 _⟩ (fun j _ => vp_updV_set (by rw [fs_len]; exact hc.2) _ j)⟩
  have hP' := R.1.set wl_D he hat e3
  rw [wl_putI ⟨hc.1, hc.2, p3⟩ hv0] at hP'
  exact kk G p l e s m args below meth c H' _ ls Z C ⟨hP', fun q => e2.trans (R.2.1 q), ⟨upM_rng R.2.2.1 (vok_h (v := vI x) hS), scr_up hv0.1 R.2.2.2⟩⟩ Lk (vok_t (vok_t hS)) (hV.put e2 e3 (wl_D.2 _ _ he)) hfin
/-- a reference field -/
def putRK (ci k : Nat) : Prop := (∃ C, tyc ci k = .object C) ∨ ∃ u, tyc ci k = .array u
theorem putRK.fits {ci k : Nat} {a : Nat} (h : putRK ci k) : narrow (tyc ci k) (.ref a) = .ref a ∧ fits (tyc ci k) (.ref a) = true := by
  rcases h with ⟨C, h⟩ | ⟨u, h⟩ <;> rw [h] <;> exact ⟨rfl, rfl⟩
theorem r_putRF {o w kI : Int} {ci k idx : Nat} (hd : Dc y pc (.putfield idx) 3 pc') (hl : Cond.fieldLink (mnm y).cls idx (cnm ci) (Tcl ci k).2.1 (Tcl ci k).2.2.1 ∈ lw_g) (hk : ((k : Nat) : Int) = kI) (hc : ci < 8 ∧ k < nfd ci ∧ tyk ci k = 2) (hf : (Tcl ci k).2.2.2 = true) (hin0 : (mnm y).name = "<init>") (hown : cnm ci = (mnm y).cls) (hx : putRK ci k) (hv : vk t o ci) (kk : SPW y t0 pc' L S (upR ρ o kI (some w), t, μ) r Mf) : SPW y t0 pc L (vR w :: vR o :: S) (ρ, t, μ) r Mf := by
  intro G p l e s m args below meth c H locs ls Z C R Lk hS hV hfin
  obtain ⟨hd, rfl⟩ := hd
  subst hk
  obtain ⟨p1, p2⟩ := hx.fits (a := adr G w)
  have hv0 := hv
  obtain ⟨h0, h1, h2⟩ := hv
  have he := wl_get (G := G) (M := (ρ, t, μ)) h0 h1
  rw [ce_obj h2 hc.1] at he
  have hK := C.2.2.2.2.2.1
  have hts := C.2.2.2.2.1
  have hin : ∀ w ∈ u_ws (cnm ci) (Tcl ci) (nfd ci), w ∈ lw_g := lay_ok ci hc.1
  have hap := va_apart (own := (mnm y).cls) hts hin (tyc ci) (tyc_ok ci hc.1) (nm_ok ci hc.1) hK (cls_ok ci hc.1)
  obtain ⟨rr, hr1, cell, q1, q2, q3, q4⟩ := R.1 _ _ he
  have hr : rr = (cnm ci, Tcl ci, nfd ci) := Option.some.inj (hr1.symm.trans (cls_ok ci hc.1))
  subst hr
  obtain ⟨hSl, hfc, kC, hkC, hkind⟩ := hK.1 ci _ (cls_ok ci hc.1)
  obtain ⟨cf, kf, fi, f, hi, hsl⟩ := hSl k hc.2.1
  have hst := (u_facts hfc hkC (u_lays hts hin hc.2.1) hi).1
  have h6 := u_fits hfc hkC hkind (u_lays hts hin hc.2.1) hi (tyc_ok ci hc.1 k hc.2.1) p1 p2
  have hlay := hts _ (hin _ (u_in_lay hc.2.1))
  unfold u_lay at hlay
  rw [if_pos hf] at hlay
  have hcf : m.cls = cf := by
    obtain ⟨_, _, c', _, _, _, -, -, hf', -, -, -, hown2, -⟩ := Cond.laysFinal_spec hlay
    have e1 : c' = cf := by have := hi.symm.trans hf'; simp at this; exact this.1.symm
    rw [show (Tcl ci k).1 = (mnm y).cls from hown] at hown2
    rw [← e1]; exact Option.some.inj (C.2.2.2.1.symm.trans hown2)
  refine W.putFinK C.1 C.2.1 C.2.2.2.1 (hts _ hl) hi hst hcf (C.2.2.2.2.2.2.2.1 hin0) (by rw [q2]; exact h6) q1 q3 (by rw [hsl]; exact k2_hasslot (q4 k hc.2.1)) rfl rfl hd fun H' e1 e2 e3 => ?_
  rw [hsl] at e1 ⊢
  have hat : va_at (gD G) cls_l (adr G o, .inr (ci, ((List.range (nfd ci)).map (fvl G (ρ, t, μ) ci o)).set k (.ref (adr G w)))) H' := ⟨_, cls_ok ci hc.1, t_OB.to (V := updV (vp_V ((List.range (nfd ci)).map (fvl G (ρ, t, μ) ci o))) k (.ref (adr G w))) ⟨_, e1, q2, q3, t_set q4 hap hc.2.1 _⟩ (fun j _ => vp_updV_set (by rw [fs_len]; exact hc.2.1) _ j)⟩
  have hP' := R.1.set wl_D he hat e3
  have hP' : va_P (gD G) cls_l ((wl G (ρ, t, μ)).set o.toNat (adr G o, .inr (ci, ((List.range (nfd ci)).map (fvl G (ρ, t, μ) ci o)).set k (tv G (.inr (some w)))))) H' := hP'
  rw [wl_putR hc hv0] at hP'
  exact kk G p l e s m args below meth c H' _ ls Z C ⟨hP', fun q => e2.trans (R.2.1 q), R.2.2⟩ Lk (vok_t (vok_t hS)) (hV.put e2 e3 (wl_D.2 _ _ he)) hfin
theorem ix_ok {i : Int} {n : Nat} (h : rng i) (h0 : 0 ≤ i) (hn : i < n) : vp_in (Int32.ofInt i) n ∧ (Int32.ofInt i).toNatClampNeg = i.toNat := ⟨oi_in h h0 hn, oi_cl h⟩
theorem tys_at {G : Gg} (q : Nat) (h : kt q < 6) : (tys_l G)[kt q]? = some (gA G (kt q), ety (kt q)) := by
  generalize kt q = z at h ⊢
  rcases (show z = 0 ∨ z = 1 ∨ z = 2 ∨ z = 3 ∨ z = 4 ∨ z = 5 by omega) with rfl | rfl | rfl | rfl | rfl | rfl <;> rfl
theorem r_iald {o i : Int} {q : Nat} (hd : Dc y pc .iaload 1 pc') (hq : 8 ≤ q ∧ kt q = 0) (hv : vk t o q) (h0 : 0 ≤ i) (hn : i < (kl q : Nat)) (kk : SPW y t0 pc' L (vI (μ o i) :: S) (ρ, t, μ) r Mf) : SPW y t0 pc L (vI i :: vR o :: S) (ρ, t, μ) r Mf := by
  intro G p l e s m args below meth c H locs ls Z C R Lk hS hV hfin
  obtain ⟨hd, rfl⟩ := hd
  obtain ⟨h1, h2, h3⟩ := hv
  have he := wl_get (G := G) (M := (ρ, t, μ)) h1 h2
  rw [ce_int h3 (by omega) (by omega)] at he
  obtain ⟨e1, e2⟩ := ix_ok (n := kl q) (vok_h hS) h0 hn
  refine va_iald C.1 C.2.1 C.2.2.2.2.2.1 R.1 o.toNat (kt q) he (by rw [tys_at q (by omega), hq.2]; rfl) e1 hd ?_
  rw [e2, Int.toNat_of_nonneg h0]
  exact kk G p l e s m args below meth c H locs ls Z C R Lk (vok_c (v := vI (μ o i)) (R.2.2.1 o i) (vok_t (vok_t hS))) hV hfin
theorem r_cald {o i : Int} {q : Nat} (hd : Dc y pc .caload 1 pc') (hq : 8 ≤ q ∧ kt q = 1) (hv : vk t o q) (h0 : 0 ≤ i) (hn : i < (kl q : Nat)) (kk : SPW y t0 pc' L (vI (μ o i) :: S) (ρ, t, μ) r Mf) : SPW y t0 pc L (vI i :: vR o :: S) (ρ, t, μ) r Mf := by
  intro G p l e s m args below meth c H locs ls Z C R Lk hS hV hfin
  obtain ⟨hd, rfl⟩ := hd
  obtain ⟨h1, h2, h3⟩ := hv
  have he := wl_get (G := G) (M := (ρ, t, μ)) h1 h2
  rw [ce_int h3 (by omega) (by omega)] at he
  obtain ⟨e1, e2⟩ := ix_ok (n := kl q) (vok_h hS) h0 hn
  refine va_cald C.1 C.2.1 C.2.2.2.2.2.1 R.1 o.toNat (kt q) he (by rw [tys_at q (by omega), hq.2]; rfl) e1 hd ?_
  rw [e2, Int.toNat_of_nonneg h0]
  exact kk G p l e s m args below meth c H locs ls Z C R Lk (vok_c (v := vI (μ o i)) (R.2.2.1 o i) (vok_t (vok_t hS))) hV hfin
theorem ety_obj {a : Nat} (h1 : 2 ≤ a) : ∃ C, ety a = .object C := by
  unfold ety
  split <;> first | omega | exact ⟨_, rfl⟩
theorem r_aald {o i : Int} {q : Nat} {v : Option Int} (hd : Dc y pc .aaload 1 pc') (hq : 8 ≤ q ∧ 2 ≤ kt q ∧ kt q < 6) (hv : vk t o q) (h0 : 0 ≤ i) (hn : i < (kl q : Nat)) (hr : ρ o i = v) (kk : SPW y t0 pc' L (.inr v :: S) (ρ, t, μ) r Mf) : SPW y t0 pc L (vI i :: vR o :: S) (ρ, t, μ) r Mf := by
  intro G p l e s m args below meth c H locs ls Z C R Lk hS hV hfin
  obtain ⟨hd, rfl⟩ := hd
  subst hr
  obtain ⟨h1, h2, h3⟩ := hv
  have he := wl_get (G := G) (M := (ρ, t, μ)) h1 h2
  rw [ce_ref h3 (by omega) (by omega)] at he
  obtain ⟨e1, e2⟩ := ix_ok (n := kl q) (vok_h hS) h0 hn
  obtain ⟨cn, hcn⟩ := ety_obj hq.2.1
  refine va_aldq (C := cn) C.1 C.2.1 C.2.2.2.2.2.1 R.1 o.toNat (kt q) he (by rw [tys_at q hq.2.2, hcn]) e1 hd ?_
  rw [e2, Int.toNat_of_nonneg h0]
  exact kk G p l e s m args below meth c H locs ls Z C R Lk (vok_c (v := .inr (ρ o i)) trivial (vok_t (vok_t hS))) hV hfin
theorem r_alen {o : Int} {q : Nat} {n : Int} (hd : Dc y pc .arraylength 1 pc') (hq : 8 ≤ q ∧ kt q < 6) (hv : vk t o q) (hn : ((kl q : Nat) : Int) = n) (hnr : rng n) (kk : SPW y t0 pc' L (vI n :: S) (ρ, t, μ) r Mf) : SPW y t0 pc L (vR o :: S) (ρ, t, μ) r Mf := by
  intro G p l e s m args below meth c H locs ls Z C R Lk hS hV hfin
  obtain ⟨hd, rfl⟩ := hd
  subst hn
  obtain ⟨h1, h2, h3⟩ := hv
  have he := wl_get (G := G) (M := (ρ, t, μ)) h1 h2
  have k := kk G p l e s m args below meth c H locs ls Z C R Lk (vok_c (v := vI _) hnr (vok_t hS)) hV hfin
  by_cases hz : kt q < 2
  · rw [ce_int h3 (by omega) hz] at he
    exact va_alen C.1 C.2.1 C.2.2.2.2.2.1 R.1 o.toNat (kt q) he (tys_at q hq.2) rfl hd k
  · rw [ce_ref h3 (by omega) hz] at he
    exact va_alen C.1 C.2.1 C.2.2.2.2.2.1 R.1 o.toNat (kt q) he (tys_at q hq.2) rfl hd k
theorem r_iast {o i x : Int} {q : Nat} (hd : Dc y pc .iastore 1 pc') (hq : 8 ≤ q ∧ kt q = 0) (hv : vk t o q) (h0 : 0 ≤ i) (hn : i < (kl q : Nat)) (kk : SPW y t0 pc' L S (ρ, t, upM μ o i x) r Mf) : SPW y t0 pc L (vI x :: vI i :: vR o :: S) (ρ, t, μ) r Mf := by
  intro G p l e s m args below meth c H locs ls Z C R Lk hS hV hfin
  obtain ⟨hd, rfl⟩ := hd
  have hv0 := hv
  obtain ⟨h1, h2, h3⟩ := hv
  have he := wl_get (G := G) (M := (ρ, t, μ)) h1 h2
  rw [ce_int h3 (by omega) (by omega)] at he
  obtain ⟨e1, e2⟩ := ix_ok (n := kl q) (vok_h (vok_t hS)) h0 hn
  have ht := (C.2.2.2.2.2.1.2 (kt q) _ (tys_at q (by omega))).1
  rw [hq.2] at ht
  rw [show gA G 0 = gA G (kt q) by rw [hq.2]] at ht
  refine W.iast C.1 C.2.1 (R.1 o.toNat _ he) (ht (kl q) (fun j => .int (Int32.ofInt (μ o j)))) (fun z => by cases z) (by show ¬ (_ < 0 ∨ (arrV _ _ _).slots.size ≤ _); rw [arrV_size]; exact e1) rfl rfl hd fun H1 f1 f2 f3 => ?_
  have hat : va_at (gD G) cls_l (adr G o, .inl (gA G (kt q), kl q, .inl (upd (fun j => Int32.ofInt (μ o j)) i.toNat (Int32.ofInt x)))) H1 := by
    show H1[adr G o]? = some (vp_cell _ _)
    rw [f1]
    rw [vp_cell_i, vp_cell_i, arrV_store]
    congr 2
    funext z
    rw [e2]
    by_cases hz : z = i.toNat
    · subst hz
      simp [updV, upd]
    · simp [updV, upd, hz]
  have hP' := R.1.set wl_D he hat f3
  rw [wl_putA ⟨by omega, by omega⟩ hv0 h0] at hP'
  exact kk G p l e s m args below meth c H1 _ ls Z C ⟨hP', fun z => f2.trans (R.2.1 z), ⟨upM_rng R.2.2.1 (vok_h (v := vI x) hS), scr_up hv0.1 R.2.2.2⟩⟩ Lk (vok_t (vok_t (vok_t hS))) (hV.put f2 f3 (wl_D.2 _ _ he)) hfin
theorem r_cast {o i x : Int} {q : Nat} (hd : Dc y pc .castore 1 pc') (hq : 8 ≤ q ∧ kt q = 1) (hv : vk 226 o q) (h0 : 0 ≤ i) (hn : i < (kl q : Nat)) (hx : 0 ≤ x ∧ x < 65536) (kk : SPW y t0 pc' L S (ρ, 226, upM μ o i x) r Mf) : SPW y t0 pc L (vI x :: vI i :: vR o :: S) (ρ, 226, μ) r Mf := by
  intro G p l e s m args below meth c H locs ls Z C R Lk hS hV hfin
  obtain ⟨hd, rfl⟩ := hd
  have hv0 := hv
  obtain ⟨h1, h2, h3⟩ := hv
  have he := wl_get (G := G) (M := (ρ, 226, μ)) h1 h2
  rw [ce_int h3 (by omega) (by omega)] at he
  obtain ⟨e1, e2⟩ := ix_ok (n := kl q) (vok_h (vok_t hS)) h0 hn
  refine va_cast C.1 C.2.1 C.2.2.2.2.2.1 R.1 wl_D hV o.toNat (kt q) he (by rw [tys_at q (by omega), hq.2]; rfl) e1 hd (fun H1 locs1 hP' hD' hV' => ?_)
  have e3 : vp_nar .char (Int32.ofInt x) = Int32.ofInt x := by
    have := (pk_charN (q := x.toNat) (by omega)).1
    rw [oi_nI, Int.toNat_of_nonneg hx.1] at this
    unfold vp_nar
    rw [this]
  rw [e2, e3, wl_putA ⟨by omega, by omega⟩ hv0 h0] at hP'
  exact kk G p l e s m args below meth c H1 locs1 ls Z C ⟨hP', fun z => absurd z (Nat.lt_irrefl 226), ⟨upM_rng R.2.2.1 (vok_h (v := vI x) hS), scr_up hv0.1 R.2.2.2⟩⟩ Lk (vok_t (vok_t (vok_t hS))) hV' hfin
theorem r_aast {o i w : Int} {q ci : Nat} (hd : Dc y pc .aastore 1 pc') (hq : 8 ≤ q ∧ 2 ≤ kt q ∧ kt q < 6) (hv : vk t o q) (h0 : 0 ≤ i) (hn : i < (kl q : Nat)) (hc : ci < 8) (hw : vk t w ci) (hty : ety (kt q) = .object (cnm ci)) (kk : SPW y t0 pc' L S (upR ρ o i (some w), t, μ) r Mf) : SPW y t0 pc L (vR w :: vI i :: vR o :: S) (ρ, t, μ) r Mf := by
  intro G p l e s m args below meth c H locs ls Z C R Lk hS hV hfin
  obtain ⟨hd, rfl⟩ := hd
  have hv0 := hv
  obtain ⟨h1, h2, h3⟩ := hv
  have he := wl_get (G := G) (M := (ρ, t, μ)) h1 h2
  rw [ce_ref h3 (by omega) (by omega)] at he
  have hew := wl_get (G := G) (M := (ρ, t, μ)) hw.1 hw.2.1
  rw [ce_obj hw.2.2 hc] at hew
  obtain ⟨e1, e2⟩ := ix_ok (n := kl q) (vok_h (vok_t hS)) h0 hn
  have hlt : (Int32.ofInt i).toNatClampNeg < kl q := Nat.not_le.mp fun z => e1 (Or.inr z)
  have hneg : ¬ Int32.ofInt i < 0 := fun z => e1 (Or.inl z)
  have hK := C.2.2.2.2.2.1
  obtain ⟨rr, hr1, cellV, g1, g2, g3, -⟩ := R.1 _ _ hew
  have hcls := (hK.1 ci _ (cls_ok ci hc)).2
  have hra := (hK.2 (kt q) _ (tys_at q hq.2.2)).2
  rw [hty] at hra
  obtain ⟨kA, comp, k1, k2, k3, -⟩ := hra
  have hcomp : comp = (gD G).1 ci := Option.some.inj (k3.symm.trans hcls.1)
  subst hcomp
  obtain ⟨kC, hkC, -⟩ := hcls.2
  refine W.aast C.1 C.2.1 (R.1 _ _ he) (fun q h => by cases h) (fun h => by cases h) k1 k2 rfl hkC ⟨hneg, by show _ < (arrV _ _ _).slots.size; rw [arrV_size]; exact hlt⟩ g1 (fun q h => by rw [g3] at h; cases h) (by rw [g2]; exact hkC) (by rw [g2]; exact va_assign hcls) rfl rfl hd fun H1 f1 f2 f3 => ?_
  have hat : va_at (gD G) cls_l (adr G o, .inl (gA G (kt q), kl q, .inr (.inr (.inr (.inr (va_up (fun j => (ρ o j).map (adr G)) i.toNat (some (adr G w)))))))) H1 := by
    show H1[adr G o]? = some (vp_cell _ _)
    rw [f1]
    rw [vp_cell_q, vp_cell_q, arrV_store]
    congr 2
    funext z
    rw [e2]
    by_cases hz : z = i.toNat
    · subst hz
      simp [updV, va_up, va_rf]
    · simp [updV, va_up, hz]
  have hP' := R.1.set wl_D he hat f3
  rw [wl_putQ ⟨by omega, by omega⟩ hv0 h0] at hP'
  exact kk G p l e s m args below meth c H1 _ ls Z C ⟨hP', fun z => f2.trans (R.2.1 z), R.2.2⟩ Lk (vok_t (vok_t (vok_t hS))) (hV.put f2 f3 (wl_D.2 _ _ he)) hfin
end RM
end
section
/-! new cells, calls, and from a walk to a contract -/
theorem slt_le {a b : Nat} (h : a ≤ b) : slt a ≤ slt b := by
  induction b with
  | zero => rw [Nat.le_zero.mp h]; exact Nat.le_refl _
  | succ n ih =>
    by_cases e : a = n + 1
    · rw [e]; exact Nat.le_refl _
    · exact Nat.le_trans (ih (by omega)) (Nat.le_add_right _ _)
/-- there is room in y's own count, from t0 objects up to t -/
def rmOK (y : MI) (t0 t : Nat) : Prop := t - t0 ≤ (mrm y).cells ∧ slt t - slt t0 ≤ (mrm y).slots
theorem rmOK_self (y : MI) (t : Nat) : rmOK y t t := ⟨by rw [Nat.sub_self]; exact Nat.zero_le _, by rw [Nat.sub_self]; exact Nat.zero_le _⟩
theorem wl_push {G : Gg} {ρ : Int → Int → Option Int} {t : Nat} {μ : Int → Int → Int} : wl G (ρ, t + 1, μ) = wl G (ρ, t, μ) ++ [(gh G + t, ce G (ρ, t, μ) (t : Int))] := by
  unfold wl
  dsimp only
  rw [List.range_succ, List.map_append]
  rfl
theorem adr_nat {G : Gg} (t : Nat) : adr G (t : Int) = gh G + t := by
  rw [adr_pos (by omega)]
  rfl
section RN
variable {y : MI} {t0 pc pc' tgt : Nat} {L L' : List (Option Vv)} {S : List Vv} {ρ : Int → Int → Option Int} {t : Nat} {μ : Int → Int → Int} {Mf : Mm} {r : Option Vv}
theorem r_new {idx ci : Nat} (hd : Dc y pc (.new idx) 3 pc') (hcl : Cond.classLink (mnm y).cls idx (cnm ci) ∈ lw_g) (his : Cond.instantiable (cnm ci) (nfd ci) ∈ lw_g) (hini : Cond.initialized (cnm ci) ∈ lw_g) (hc : ci < 8 ∧ kd t = ci ∧ t < 226 ∧ t0 ≤ t) (hty : ∀ k, k < nfd ci → defaultValue (tyc ci k) = if tyk ci k = 2 then .null else .int 0)
    (hz : (∀ k : Nat, μ t k = 0) ∧ ∀ k : Nat, ρ t k = none) (hroom : rmOK y t0 (t + 1)) (kk : SPW y t0 pc' L (vR t :: S) (ρ, t + 1, μ) r Mf) : SPW y t0 pc L S (ρ, t, μ) r Mf := by
  intro G p l e s m args below meth c H locs ls Z C R Lk hS hV hfin
  obtain ⟨hd, rfl⟩ := hd
  have hsz := R.2.1 hc.2.2.1
  have hK := C.2.2.2.2.2.1
  have hts := C.2.2.2.2.1
  have hKn := hK.1 ci _ (cls_ok ci hc.1)
  have hso : szo t = nfd ci := by unfold szo; rw [hc.2.1, if_pos hc.1]
  have hmon := slt_le hc.2.2.2
  have hsl : slt (t + 1) = slt t + nfd ci := by rw [slt, hso]
  have e1 : t - t0 + 1 = t + 1 - t0 := by omega
  have e2 : slt t - slt t0 + nfd ci = slt (t + 1) - slt t0 := by rw [hsl]; omega
  refine W.newcK C.1 C.2.1 C.2.2.2.1 (hts _ hcl) (hts _ his) (hts _ hini) rfl hd (by show t - t0 + 1 ≤ _; rw [e1]; exact hroom.1) (by show slt t - slt t0 + nfd ci ≤ _; rw [e2]; exact hroom.2) hKn.2.1 rfl fun H1 kC hkC f1 f2 f3 => ?_
  have hob := u_born (tyc ci) hts (lay_ok ci hc.1) hKn hkC f1 (tyc_ok ci hc.1)
  have hkeep : ∀ (k : Nat) (x : Nat × va_E), (wl G (ρ, t, μ))[k]? = some x → H1[x.1]? = H[x.1]? := fun k x hx => f3 x.1 ((R.1 k x hx).lt)
  have hR1 : Rep G (ρ, t + 1, μ) H1 := by
    refine ⟨?_, fun _ => by show H1.size = gh G + (t + 1); rw [f2, hsz]; rfl, R.2.2⟩
    rw [wl_push]
    refine (R.1.kept hkeep).app (fun k x hx => ?_)
    have hk0 : k < 1 := (List.getElem?_eq_some_iff.mp hx).1
    rw [show k = 0 by omega] at hx
    cases hx
    rw [ce_obj hc.2.1 hc.1]
    rw [show gh G + t = H.size from hsz.symm]
    refine ⟨_, cls_ok ci hc.1, hob.to (fun j hj => ?_)⟩
    unfold vp_V
    rw [List.getD_eq_getElem?_getD, fvl_at hj, hty j hj]
    unfold fvl
    dsimp only
    rw [hz.1, hz.2]
    rfl
  refine W.cs e1 e2 ?_
  have hadr : Value.ref H.size = tv G (vR t) := by
    show _ = Value.ref (adr G t)
    rw [adr_nat, hsz]
  rw [hadr]
  exact kk G p l e s m args below meth c H1 locs ls Z C hR1 Lk (vok_c (v := vR t) trivial hS) ⟨by rw [f2]; exact Nat.le_succ_of_le hV.1, fun q h1 h2 => by rw [f3 q (Nat.lt_of_lt_of_le h1 hV.1)]; exact hV.2.1 q h1 h2, hV.2.2⟩ hfin
theorem r_newarr {n : Int} {q : Nat} {at' : ArrayType} (hd : Dc y pc (.newarray at') 2 pc') (hac : Cond.arrayClass (newarray.typeOf at') ∈ lw_g) (hat : newarray.typeOf at' = ety (kt q) ∧ ((at' = .int ∧ kt q = 0) ∨ (at' = .char ∧ kt q = 1))) (hq : 8 ≤ q ∧ kd t = q ∧ t < 226 ∧ t0 ≤ t) (hn : ((kl q : Nat) : Int) = n) (hb : kl q * 4 ≤ 536870912)
    (hz : ∀ k : Nat, μ t k = 0) (hroom : rmOK y t0 (t + 1)) (kk : SPW y t0 pc' L (vR t :: S) (ρ, t + 1, μ) r Mf) : SPW y t0 pc L (vI n :: S) (ρ, t, μ) r Mf := by
  intro G p l e s m args below meth c H locs ls Z C R Lk hS hV hfin
  obtain ⟨hd, rfl⟩ := hd
  subst hn
  have hsz := R.2.1 hq.2.2.1
  have hK := C.2.2.2.2.2.1
  have hts := C.2.2.2.2.1
  have hnr : rng (kl q : Nat) := vok_h (v := vI _) hS
  have hso : szo t = kl q := by unfold szo; rw [hq.2.1, if_neg (by omega)]
  have hmon := slt_le hq.2.2.2
  have hsl : slt (t + 1) = slt t + kl q := by rw [slt, hso]
  have e1 : t - t0 + 1 = t + 1 - t0 := by omega
  have e2 : slt t - slt t0 + kl q = slt (t + 1) - slt t0 := by rw [hsl]; omega
  have hcb : kl q * componentBytes (newarray.typeOf at') ≤ 536870912 := by
    rcases hat.2 with ⟨rfl, -⟩ | ⟨rfl, -⟩
    · exact hb
    · exact Nat.le_trans (Nat.mul_le_mul_left _ (by decide)) hb
  have hdef : defaultValue (newarray.typeOf at') = .int 0 := by
    rcases hat.2 with ⟨rfl, -⟩ | ⟨rfl, -⟩ <;> rfl
  refine va_newaK C.1 C.2.1 (hts _ hac) rfl hd rfl (N := kl q) (by rw [oi_0, oi_lt hnr rng_0]; omega) (by rw [oi_cl hnr]; rfl) hcb (by show t - t0 + 1 ≤ _; rw [e1]; exact hroom.1) (by show slt t - slt t0 + kl q ≤ _; rw [e2]; exact hroom.2) hsz fun H1 cA f1 f2 f3 f4 f5 => ?_
  have hkt : kt q < 2 := by rcases hat.2 with ⟨-, h⟩ | ⟨-, h⟩ <;> omega
  have hcA : cA = gA G (kt q) := by
    have hra := (hK.2 (kt q) _ (tys_at q (by omega))).2
    rw [hat.1] at f5
    rcases hat.2 with ⟨-, h⟩ | ⟨-, h⟩
    · rw [h] at hra f5 ⊢
      exact Option.some.inj (f5.symm.trans hra)
    · rw [h] at hra f5 ⊢
      exact Option.some.inj (f5.symm.trans hra)
  have hkeep : ∀ (k : Nat) (x : Nat × va_E), (wl G (ρ, t, μ))[k]? = some x → H1[x.1]? = H[x.1]? := fun k x hx => f3 x.1 (by rw [← hsz]; exact (R.1 k x hx).lt)
  have hR1 : Rep G (ρ, t + 1, μ) H1 := by
    refine ⟨?_, fun _ => by show H1.size = gh G + (t + 1); rw [f2]; rfl, R.2.2⟩
    rw [wl_push]
    refine (R.1.kept hkeep).app (fun k x hx => ?_)
    have hk0 : k < 1 := (List.getElem?_eq_some_iff.mp hx).1
    rw [show k = 0 by omega] at hx
    cases hx
    rw [ce_int hq.2.1 (by omega) hkt]
    show H1[gh G + t]? = some (vp_cell _ _)
    rw [f1, hcA, hdef, vp_cell_i]
    congr 2
    funext j
    dsimp only
    rw [hz j]
    rfl
  refine W.cs e1 e2 ?_
  have hadr : Value.ref (gh G + t) = tv G (vR t) := by
    show _ = Value.ref (adr G t)
    rw [adr_nat]
  rw [hadr]
  exact kk G p l e s m args below meth c H1 locs ls Z C hR1 Lk (vok_c (v := vR t) trivial (vok_t hS)) ⟨by rw [f2]; rw [← hsz]; exact Nat.le_succ_of_le hV.1, fun q h1 h2 => by rw [f3 q (by rw [← hsz]; exact Nat.lt_of_lt_of_le h1 hV.1)]; exact hV.2.1 q h1 h2, hV.2.2⟩ hfin
theorem Xw.at {s : State} (h : Xw s) {ci : Nat} (hc : ci = 0 ∨ ci = 4 ∨ ci = 3 ∨ ci = 1) : va_AO (cnm ci) s := by
  rcases hc with rfl | rfl | rfl | rfl
  · exact h.1
  · exact h.2.1
  · exact h.2.2.1
  · exact h.2.2.2.1
theorem r_newref {n : Int} {q idx ci : Nat} (hd : Dc y pc (.anewarray idx) 3 pc') (hcl : Cond.classLink (mnm y).cls idx (cnm ci) ∈ lw_g) (hci : ci = 0 ∨ ci = 4 ∨ ci = 3 ∨ ci = 1) (hat : ety (kt q) = .object (cnm ci) ∧ 2 ≤ kt q ∧ kt q < 6) (hq : 8 ≤ q ∧ kd t = q ∧ t < 226 ∧ t0 ≤ t) (hn : ((kl q : Nat) : Int) = n) (hb : kl q * 4 ≤ 536870912)
    (hz : ∀ k : Nat, ρ t k = none) (hroom : rmOK y t0 (t + 1)) (kk : SPW y t0 pc' L (vR t :: S) (ρ, t + 1, μ) r Mf) : SPW y t0 pc L (vI n :: S) (ρ, t, μ) r Mf := by
  intro G p l e s m args below meth c H locs ls Z C R Lk hS hV hfin
  obtain ⟨hd, rfl⟩ := hd
  subst hn
  have hsz := R.2.1 hq.2.2.1
  have hK := C.2.2.2.2.2.1
  have hts := C.2.2.2.2.1
  have hnr : rng (kl q : Nat) := vok_h (v := vI _) hS
  have hcl1 : (Int32.ofInt ((kl q : Nat) : Int)).toNatClampNeg = kl q := by rw [oi_cl hnr]; rfl
  have hso : szo t = kl q := by unfold szo; rw [hq.2.1, if_neg (by omega)]
  have hmon := slt_le hq.2.2.2
  have hsl : slt (t + 1) = slt t + kl q := by rw [slt, hso]
  have e1 : t - t0 + 1 = t + 1 - t0 := by omega
  have e2 : slt t - slt t0 + kl q = slt (t + 1) - slt t0 := by rw [hsl]; omega
  refine W.anew (C := cnm ci) C.1 C.2.1 C.2.2.2.1 (hts _ hcl) (va_AO.use (C.2.2.2.2.2.2.1.at hci)) rfl hd rfl (by rw [oi_0, oi_lt hnr rng_0]; omega) (by rw [hcl1]; exact hb) (by show t - t0 + 1 ≤ _; rw [e1]; exact hroom.1) (by show slt t - slt t0 + _ ≤ _; rw [hcl1, e2]; exact hroom.2) fun cA kA comp g1 g2 g3 g4 => ?_
  rw [hcl1]
  have hcA : cA = gA G (kt q) := by
    have hra := (hK.2 (kt q) _ (tys_at q hat.2.2)).2
    rw [hat.1] at hra
    obtain ⟨_, _, -, -, -, h4⟩ := hra
    exact Option.some.inj (g1.symm.trans h4)
  generalize hH1 : H.push ({ cls := cA, slots := Array.replicate (kl q) .null, vm := .none } : Cell) = H1
  have f2 : H1.size = H.size + 1 := by rw [← hH1, Array.size_push]
  have f1 : H1[H.size]? = some (arrV cA (kl q) (fun _ => .null)) := by rw [← hH1, Array.getElem?_push_size, ← arrV_new]
  have f3 : ∀ q : Nat, q < H.size → H1[q]? = H[q]? := fun q hq => by rw [← hH1, Array.getElem?_push, if_neg (Nat.ne_of_lt hq)]
  have hkeep : ∀ (k : Nat) (x : Nat × va_E), (wl G (ρ, t, μ))[k]? = some x → H1[x.1]? = H[x.1]? := fun k x hx => f3 x.1 ((R.1 k x hx).lt)
  have hR1 : Rep G (ρ, t + 1, μ) H1 := by
    refine ⟨?_, fun _ => by show H1.size = gh G + (t + 1); rw [f2, hsz]; rfl, R.2.2⟩
    rw [wl_push]
    refine (R.1.kept hkeep).app (fun k x hx => ?_)
    have hk0 : k < 1 := (List.getElem?_eq_some_iff.mp hx).1
    rw [show k = 0 by omega] at hx
    cases hx
    rw [ce_ref hq.2.1 (by omega) (by omega)]
    show H1[gh G + t]? = some (vp_cell _ _)
    rw [show gh G + t = H.size from hsz.symm]
    rw [f1, hcA, vp_cell_q]
    congr 2
    funext j
    dsimp only
    rw [hz j]
    rfl
  refine W.cs e1 e2 ?_
  have hadr : Value.ref H.size = tv G (vR t) := by
    show _ = Value.ref (adr G t)
    rw [adr_nat, hsz]
  rw [hadr]
  exact kk G p l e s m args below meth c H1 locs ls Z C hR1 Lk (vok_c (v := vR t) trivial (vok_t hS)) ⟨by rw [f2]; exact Nat.le_succ_of_le hV.1, fun q h1 h2 => by rw [f3 q (Nat.lt_of_lt_of_le h1 hV.1)]; exact hV.2.1 q h1 h2, hV.2.2⟩ hfin
theorem tv_cats (G : Gg) (S : List Vv) : ((S.map (tv G)).map fun v => v.category).sum = S.length := by
  induction S with
  | nil => rfl
  | cons v S ih =>
    simp only [List.map_cons, List.sum_cons, tv_cat, List.length_cons] at ih ⊢
    omega
theorem r_obj {o : Int} {idx : Nat} (hd : Dc y pc (.invokespecial idx) 3 pc') (hl : Cond.methodLink (mnm y).cls idx Lib.objectInit ∈ lw_g) (hR : 1 ≤ (mrm y).frames ∧ 12 + S.length ≤ (mrm y).locals) (kk : SPW y t0 pc' L S (ρ, t, μ) r Mf) : SPW y t0 pc L (vR o :: S) (ρ, t, μ) r Mf := by
  intro G p l e s m args below meth c H locs ls Z C R Lk hS hV hfin
  obtain ⟨hd, rfl⟩ := hd
  have hts := C.2.2.2.2.1
  exact W.objInit C.1 C.2.1 C.2.2.2.1 (hts _ hl) (hts _ inst_obj) (hts _ code_obj) rfl (Lk.1.trans C.2.2.1.symm) rfl hd hR.1 (by rw [tv_cats]; show 2 * 0 + _ + 12 ≤ _; omega) (kk G p l e s m args below meth c H locs ls Z C R Lk (vok_t hS) hV hfin)
theorem r_min {x z : Int} {idx : Nat} (hd : Dc y pc (.invokestatic idx) 3 pc') (hl : Cond.methodLink (mnm y).cls idx Lib.Math.min.name ∈ lw_g) (hR : 1 ≤ (mrm y).frames ∧ 13 + S.length ≤ (mrm y).locals) (hroom : rmOK y t0 t) (kk : SPW y t0 pc' L (vI (if z < x then z else x) :: S) (ρ, t, μ) r Mf) : SPW y t0 pc L (vI z :: vI x :: S) (ρ, t, μ) r Mf := by
  intro G p l e s m args below meth c H locs ls Z C R Lk hS hV hfin
  obtain ⟨hd, rfl⟩ := hd
  have hts := C.2.2.2.2.1
  have hz : rng z := vok_h hS
  have hx : rng x := vok_h (vok_t hS)
  refine va_mmin C.1 C.2.1 (C.2.2.1.trans Lk.1.symm) C.2.2.2.1 (hts _ hl) (hts _ stat_min) (hts _ ini_Math) (hts _ code_min) hR.1 (by rw [tv_cats]; omega) hroom.1 hroom.2 hd ?_
  have he : (if Int32.ofInt z < Int32.ofInt x then Int32.ofInt z else Int32.ofInt x) = Int32.ofInt (if z < x then z else x) := by
    by_cases h : z < x
    · rw [if_pos h, if_pos ((oi_lt hz hx).mpr h)]
    · rw [if_neg h, if_neg (fun q => h ((oi_lt hz hx).mp q))]
  rw [he]
  exact kk G p l e s m args below meth c H locs ls Z C R Lk (vok_c (v := vI _) (by show rng _; split <;> assumption) (vok_t (vok_t hS))) hV hfin
end RN
theorem Xw.warm {s U : State} (h : Xw s) (hW : s.WarmedH U.vm) : Xw U := ⟨h.1.moved hW.alike, h.2.1.moved hW.alike, h.2.2.1.moved hW.alike, h.2.2.2.1.moved hW.alike, va_Nw.warmM hW h.2.2.2.2⟩
theorem Xw.same {u U : State} (h : Xw u) (e : u.vm = U.vm) : Xw U := by
  have hal : u.vm.Alike U.vm := by rw [e]; exact Vm.Alike.refl _
  exact ⟨h.1.moved hal, h.2.1.moved hal, h.2.2.1.moved hal, h.2.2.2.1.moved hal, va_Nw.same rfl e h.2.2.2.2⟩
theorem MetP_blind (as : List Value) (G : Gg) (vs : List Vv) (M : Mm) : FrameBlind (va_Pc as (MetP G vs M)) := fun a U g mk q => ⟨q.1, q.2.1, va_K.moved (u := U) (U := U.calling g mk a) (Vm.Alike.refl U.vm) q.2.2.1, q.2.2.2.1.same (U := U.calling g mk a) rfl, q.2.2.2.2⟩
theorem good_M {y : MI} (h : Cond.code (mnm y) (mbc y) (mml y) (mrt y) ∈ lw_g) : GoodIn lw_g (wsM y) := by
  intro w hw
  rcases List.mem_cons.mp hw with rfl | hw
  · exact ⟨h, lw_good _ h⟩
  · exact ⟨hw, lw_good _ hw⟩
section RC
variable {y y' : MI} {t0 pc pc' idx n ci : Nat} {L : List (Option Vv)} {S As : List Vv} {M M1 Mf : Mm} {r r1 : Option Vv} {o : Int}
/-- what a caller owes of room: the callee's frames and words, and its cells within its own -/
def clOK (y y' : MI) (t0 : Nat) (M M1 : Mm) : Prop := (mrm y').frames + 1 ≤ (mrm y).frames ∧ 8 + (mml y' + 11) + (mrm y').locals ≤ (mrm y).locals ∧ (mrm y').cells = M1.2.1 - M.2.1 ∧ (mrm y').slots = slt M1.2.1 - slt M.2.1 ∧ t0 ≤ M.2.1 ∧ M.2.1 ≤ M1.2.1 ∧ rmOK y t0 M1.2.1
theorem cl_go {G : Gg} {p : Program} {l : Launch} {e : Env} {s : State} {m : MethodId} {args a : Array Value} {below : List Frame} {meth : Method} {c : Code} {H : Heap} {locs : List Loc} {ls : Array Slot} {Z : State → Prop} {st0 : List Value} (hcl : clOK y y' t0 M M1)
    (hr : va_Run p l e (mrm y) s m args below meth c H locs (M.2.1 - t0) (slt M.2.1 - slt t0) (M1.2.1 - M.2.1) (slt M1.2.1 - slt M.2.1) (F0 m pc ls st0) (S.map (tv G)) (MetQ G r1 M1 a) (Ah G))
    (C : Cx G y p s m args meth c) (Lk : LocOK G ls (mml y) L) (hS : ∀ v ∈ S, vok v) (hV : va_S (Ah G) s.heap H locs)
    (hfin : ∀ (H' : Heap) (locs' : List Loc) (ls' : Array Slot) (pc' : Nat), Rep G Mf H' → va_S (Ah G) s.heap H' locs' → (∀ v, r = some v → vok v) → decode (mbc y) pc' = .ok (retI (mrt y), 1) →
      W p l e (mrm y) s m args below meth c H' locs' (Mf.2.1 - t0) (slt Mf.2.1 - slt t0) Z (F0 m pc' ls' (r.toList.map (tv G))))
    (kk : SPW y t0 (pc + 3) L (r1.toList ++ S) M1 r Mf) : W p l e (mrm y) s m args below meth c H locs (M.2.1 - t0) (slt M.2.1 - slt t0) Z (F0 m pc ls st0) := by
  intro T hT X
  obtain ⟨v, st₀, t, T', L2, h0, X', hL, e1, e2, hq, st⟩ := hr T hT X
  obtain ⟨hv, hR1, hvk, hF⟩ := hq
  have hv' : v = r1.map (tv G) := by cases hv; rfl
  subst hv'
  obtain ⟨-, -, -, -, g1, g2, -⟩ := hcl
  have m1 := slt_le g1
  have m2 := slt_le g2
  rw [show M.2.1 - t0 + (M1.2.1 - M.2.1) = M1.2.1 - t0 by omega, show slt M.2.1 - slt t0 + (slt M1.2.1 - slt M.2.1) = slt M1.2.1 - slt t0 by omega] at X'
  unfold va_F at hF
  rw [h0] at hF
  have hV' : va_S (Ah G) s.heap T'.heap (locs ++ L2) := by
    refine ⟨Nat.le_trans hV.1 (by rw [e1]; exact hF.1), fun q h1 h2 => ?_, fun q hq => ?_⟩
    · rw [e1, hF.2 q (Nat.lt_of_lt_of_le h1 hV.1) h2]
      exact hV.2.1 q h1 h2
    · rcases List.mem_append.mp hq with h | h
      · exact hV.2.2 q h
      · exact hL q h
  have hS' : ∀ v ∈ r1.toList ++ S, vok v := by
    intro v hv
    rcases List.mem_append.mp hv with h | h
    · exact hvk v (by simpa using h)
    · exact hS v h
  obtain ⟨t2, a1, b1⟩ := kk G p l e s m args below meth c T'.heap (locs ++ L2) ls Z C (by rw [e1]; exact hR1) Lk hS' hV' hfin T' rfl X'
  refine ⟨t2, st t2 ?_, b1⟩
  have hst : (r1.toList ++ S).map (tv G) = (r1.map (tv G)).toList ++ S.map (tv G) := by cases r1 <;> simp
  rw [hst] at a1
  exact a1
theorem r_callV_ (hd : Dc y pc (.invokevirtual idx) 3 pc') (hl : Cond.methodLink (mnm y).cls idx (mnm y') ∈ lw_g) (ok : mOK y' n) (vi : mVirt y') (hM : MetC y' (vR o :: As) M r1 M1) (hn : As.length = n) (hv : vk M.2.1 o ci) (hc : ci < 8 ∧ cnm ci = (mnm y').cls) (hcl : clOK y y' t0 M M1) (hlen : S.length ≤ 8) (kk : SPW y t0 pc' L (r1.toList ++ S) M1 r Mf) : SPW y t0 pc L (As.reverse ++ vR o :: S) M r Mf := by
  intro G p l e s m args below meth c H locs ls Z C R Lk hS hV hfin
  obtain ⟨hd, rfl⟩ := hd
  have hts := C.2.2.2.2.1
  have hS0 : ∀ v ∈ S, vok v := fun v h => hS v (List.mem_append_right _ (List.mem_cons_of_mem _ h))
  have hAs : ∀ v ∈ vR o :: As, vok v := fun v h => (List.mem_cons.mp h).elim (fun q => by rw [q]; trivial) (fun q => hS v (List.mem_append_left _ (List.mem_reverse.mpr q)))
  have he := wl_get (G := G) (M := M) hv.1 hv.2.1
  rw [ce_obj hv.2.2 hc.1] at he
  obtain ⟨o1, o2, o3, o4, o5, o6⟩ := ok
  have hG : GoodIn lw_g (wsV (mnm y).cls idx (mnm y').cls (mnm y') (wsM y')) := by
    intro w hw
    rcases List.mem_append.mp hw with hw | hw
    · have hw' : w ∈ lw_g := by
        rcases List.mem_cons.mp hw with rfl | hw
        · exact hl
        rcases List.mem_cons.mp hw with rfl | hw
        · exact vi.1
        rcases List.mem_cons.mp hw with rfl | hw
        · exact vi.2
        rcases List.mem_cons.mp hw with rfl | hw
        · exact o5
        · cases hw
      exact ⟨hw', lw_good _ hw'⟩
    · exact good_M o1 w hw
  have cw := cwV (args := args) (s := s) (R := mrm y) (rm := mrm y') n hts hG rfl hcl.2.2.1 hcl.2.2.2.1 ⟨rfl, o3, o4, o6⟩ ⟨hcl.1, hcl.2.1⟩
  have hrec := va_recv C.2.2.2.2.2.1 R.1 (cls_ok ci hc.1) he
  rw [show (cnm ci, Tcl ci, nfd ci).1 = (mnm y').cls from hc.2] at hrec
  have run := va_runV (b := adr G o) (As := As.map (tv G)) (rest := S.map (tv G)) (g := F0 m pc ls ((As.reverse ++ vR o :: S).map (tv G))) (cells := M.2.1 - t0) (slots := slt M.2.1 - slt t0) (locs := locs) (below := below) (meth := meth) (e := e) ⟨C.1, C.2.1, C.2.2.1, C.2.2.2.1, hts⟩ (hM l G) cw
    ⟨MetP_blind _ G _ M, hrec, fun U hU hW => ⟨rfl, by rw [hU]; exact R, va_K.moved hW.alike C.2.2.2.2.2.1, C.2.2.2.2.2.2.1.warm hW, hAs⟩⟩ rfl (by rw [List.length_map]; exact hn) Lk.1 (by simp [tv, va_rf]) (lv_room (by rw [tv_cats]; exact hlen)) hd ⟨by have := hcl.2.2.2.2.2.2.1; have := hcl.2.2.2.2.1; have := hcl.2.2.2.2.2.1; omega, by have := hcl.2.2.2.2.2.2.2; have := slt_le hcl.2.2.2.2.1; have := slt_le hcl.2.2.2.2.2.1; omega⟩
  exact cl_go hcl run C Lk hS0 hV hfin kk
theorem r_callS_ (hd : Dc y pc (.invokestatic idx) 3 pc') (hl : Cond.methodLink (mnm y).cls idx (mnm y') ∈ lw_g) (ok : mOK y' n) (sta : Cond.static (mnm y') ∈ lw_g) (hM : MetC y' As M r1 M1) (hn : As.length = n) (hcl : clOK y y' t0 M M1) (hlen : S.length ≤ 8) (kk : SPW y t0 pc' L (r1.toList ++ S) M1 r Mf) : SPW y t0 pc L (As.reverse ++ S) M r Mf := by
  intro G p l e s m args below meth c H locs ls Z C R Lk hS hV hfin
  obtain ⟨hd, rfl⟩ := hd
  have hts := C.2.2.2.2.1
  have hS0 : ∀ v ∈ S, vok v := fun v h => hS v (List.mem_append_right _ h)
  have hAs : ∀ v ∈ As, vok v := fun v q => hS v (List.mem_append_left _ (List.mem_reverse.mpr q))
  obtain ⟨o1, o2, o3, o4, o5, o6⟩ := ok
  have cw := callB_of (args := args) (s := s) (R := mrm y) (rm := mrm y') (own := (mnm y).cls) (index := idx) n hts (good_M o1) rfl hcl.2.2.1 hcl.2.2.2.1 (hts _ o5) (hts _ hl) ⟨o3, o4, o6⟩ ⟨hcl.1, hcl.2.1⟩
  have run := va_runS (As := As.map (tv G)) (rest := S.map (tv G)) (g := F0 m pc ls ((As.reverse ++ S).map (tv G))) (cells := M.2.1 - t0) (slots := slt M.2.1 - slt t0) (locs := locs) (below := below) (meth := meth) (e := e) ⟨C.1, C.2.1, C.2.2.1, C.2.2.2.1, hts⟩ (hM l G) ⟨cw, hts _ sta⟩
    ⟨MetP_blind _ G _ M, fun U hU hW => ⟨rfl, by rw [hU]; exact R, va_K.moved hW.alike C.2.2.2.2.2.1, C.2.2.2.2.2.2.1.warm hW, hAs⟩⟩ rfl (by rw [List.length_map]; exact hn) Lk.1 (by simp) (lv_room (by rw [tv_cats]; exact hlen)) hd ⟨by have := hcl.2.2.2.2.2.2.1; have := hcl.2.2.2.2.1; have := hcl.2.2.2.2.2.1; omega, by have := hcl.2.2.2.2.2.2.2; have := slt_le hcl.2.2.2.2.1; have := slt_le hcl.2.2.2.2.2.1; omega⟩
  exact cl_go hcl run C Lk hS0 hV hfin kk
theorem r_callI_ (hd : Dc y pc (.invokespecial idx) 3 pc') (hl : Cond.methodLink (mnm y).cls idx (mnm y') ∈ lw_g) (ok : mOK y' n) (inst : Cond.instanceMethod (mnm y') ∈ lw_g) (hy : (mnm y').name = "<init>" ∧ mrt y' = none) (hM : MetC y' (vR o :: As) M r1 M1) (hn : As.length = n) (hcl : clOK y y' t0 M M1) (hlen : S.length ≤ 8) (kk : SPW y t0 pc' L (r1.toList ++ S) M1 r Mf) : SPW y t0 pc L (As.reverse ++ vR o :: S) M r Mf := by
  intro G p l e s m args below meth c H locs ls Z C R Lk hS hV hfin
  obtain ⟨hd, rfl⟩ := hd
  have hts := C.2.2.2.2.1
  have hS0 : ∀ v ∈ S, vok v := fun v h => hS v (List.mem_append_right _ (List.mem_cons_of_mem _ h))
  have hAs : ∀ v ∈ vR o :: As, vok v := fun v h => (List.mem_cons.mp h).elim (fun q => by rw [q]; trivial) (fun q => hS v (List.mem_append_left _ (List.mem_reverse.mpr q)))
  obtain ⟨o1, o2, o3, o4, o5, o6⟩ := ok
  have cw := callB_of (args := args) (s := s) (R := mrm y) (rm := mrm y') (own := (mnm y).cls) (index := idx) n hts (good_M o1) rfl hcl.2.2.1 hcl.2.2.2.1 (hts _ o5) (hts _ hl) ⟨o3, o4, o6⟩ ⟨hcl.1, hcl.2.1⟩
  rw [hy.2] at cw
  have run := va_runI (b := adr G o) (As := As.map (tv G)) (rest := S.map (tv G)) (g := F0 m pc ls ((As.reverse ++ vR o :: S).map (tv G))) (cells := M.2.1 - t0) (slots := slt M.2.1 - slt t0) (locs := locs) (below := below) (meth := meth) (e := e) ⟨C.1, C.2.1, C.2.2.1, C.2.2.2.1, hts⟩ (hM l G) ⟨cw, hy.1, hts _ inst⟩
    ⟨MetP_blind _ G _ M, fun U hU hW => ⟨rfl, by rw [hU]; exact R, va_K.moved hW.alike C.2.2.2.2.2.1, C.2.2.2.2.2.2.1.warm hW, hAs⟩⟩ rfl (by rw [List.length_map]; exact hn) Lk.1 (by simp [tv, va_rf]) (lv_room (by rw [tv_cats]; exact hlen)) hd ⟨by have := hcl.2.2.2.2.2.2.1; have := hcl.2.2.2.2.1; have := hcl.2.2.2.2.2.1; omega, by have := hcl.2.2.2.2.2.2.2; have := slt_le hcl.2.2.2.2.1; have := slt_le hcl.2.2.2.2.2.1; omega⟩
  exact cl_go hcl run C Lk hS0 hV hfin kk
end RC
theorem lv_args_at : ∀ (vs : List Value) (k : Nat), (∀ v ∈ vs, v.category = 1) → ∀ (i : Nat) (v : Value), vs[i]? = some v → (k + i, v) ∈ lv_args k vs
  | [], k, _, i, v, h => by simp at h
  | w :: vs, k, hc, i, v, h => by
    have hw : w.category = 1 := hc w List.mem_cons_self
    unfold lv_args
    rw [if_neg (by omega)]
    cases i with
    | zero =>
      rw [List.getElem?_cons_zero] at h
      cases h
      exact List.mem_cons_self
    | succ i =>
      rw [List.getElem?_cons_succ] at h
      have := lv_args_at vs (k + 1) (fun v hv => hc v (List.mem_cons_of_mem _ hv)) i v h
      rw [show k + (i + 1) = k + 1 + i by omega]
      exact List.mem_cons_of_mem _ this
theorem lg_sl_len : ∀ (vs : List Value), (∀ v ∈ vs, v.category = 1) → (lg_sl vs).length = vs.length
  | [], _ => rfl
  | w :: vs, hc => by
    have hw : w.category = 1 := hc w List.mem_cons_self
    have ih := lg_sl_len vs (fun v hv => hc v (List.mem_cons_of_mem _ hv))
    unfold lg_sl at ih ⊢
    rw [List.flatMap_cons, if_neg (by omega), List.length_append, ih]
    simp
    omega
theorem entry_loc {G : Gg} {as : List Vv} {n : Nat} (hn : as.length ≤ n) (hv : ∀ v ∈ as, vok v) : LocOK G ((lg_sl (as.map (tv G)) ++ List.replicate (n - (lg_sl (as.map (tv G))).length) Slot.unset).toArray) n (as.map some ++ List.replicate (n - as.length) none) := by
  have hc : ∀ v ∈ as.map (tv G), v.category = 1 := by
    intro v hv
    obtain ⟨w, -, rfl⟩ := List.mem_map.mp hv
    exact tv_cat G w
  have hl := lv_entry (as.map (tv G)) (n := n) (by rw [lg_sl_len _ hc, List.length_map]; exact hn)
  refine ⟨hl.1, hl.2.1, by simp; omega, fun i v h => ?_⟩
  rw [List.getElem?_append] at h
  split at h
  · rename_i hlt
    rw [List.getElem?_map] at h
    cases ha : as[i]? with
    | none => rw [ha] at h; cases h
    | some w =>
      rw [ha] at h
      cases h
      refine ⟨?_, hv v (List.mem_of_getElem? ha)⟩
      have h1 := lv_args_at (as.map (tv G)) 0 hc i (tv G v) (by rw [List.getElem?_map, ha]; rfl)
      rw [Nat.zero_add] at h1
      exact hl.2.2 _ h1
  · rename_i hlt
    have h2 := List.mem_of_getElem? h
    rw [List.mem_replicate] at h2
    cases h2.2
theorem met_of {y : MI} {as : List Vv} {M Mf : Mm} {r : Option Vv} (hw : SPW y M.2.1 0 (as.map some ++ List.replicate (mml y - as.length) none) [] M r Mf) (hn : as.length ≤ mml y) (hpl : plainName (mnm y).cls = true) (hr : rOK (mrt y) r) (hlaw : (mnm y).name ≠ "law") (h0 : 0 < M.2.1) : MetC y as M r Mf := by
  intro l G
  refine Met.ofW (cc := mbc y) (maxL := mml y) (ret := mrt y) hpl rfl ?_
  intro p e s m args below meth c s₁ B hml hpv
  obtain ⟨rfl, hR, hK, hXw, hv⟩ := hpv
  have hts := atoms_spec (ws := wsM y) B.pre
  have hown : s.vm.findClass (mnm y).cls = some m.cls := findClass_of_methodNamed B.named
  have hlocks := B.notSynchronized
  have hret := B.returns
  have hgh : gh G ≤ s.heap.size := by
    have h1 := wl_get (G := G) (M := M) (o := 0) (Int.le_refl 0) (by omega)
    have h2 := (hR.1 _ _ h1).lt
    rw [adr_pos (Int.le_refl 0)] at h2
    dsimp only at h2
    omega
  have C : Cx G y p s m (as.map (tv G)).toArray meth c := ⟨B.exec, B.bytes, hml, hown, fun w h => hts w (List.mem_cons_of_mem _ h), hK, hXw, fun h => (name_of_methodNamed B.named B.method).1.trans h, hgh, fun h => absurd h hlaw⟩
  rw [lg_entry_eq]
  have hk := hw G p l e s m (as.map (tv G)).toArray below meth c s.heap [] _ (MQ below (MetQ G r Mf) (as.map (tv G)).toArray s (Mf.2.1 - M.2.1) (slt Mf.2.1 - slt M.2.1) (Ah G)) C hR (entry_loc hn hv) (fun _ h => by cases h) va_S.rf ?_
  · rw [Nat.sub_self, Nat.sub_self] at hk
    exact hk
  · intro H' locs' ls' pc' hR' hV' hvk hd
    have hq : ∀ t : State, t.heap = H' → s.WarmedH t.vm → MetQ G r Mf (as.map (tv G)).toArray s (.returned (r.map (tv G))) t := fun t ht hW => ⟨rfl, by rw [ht]; exact hR', hvk, hV'.F ht⟩
    have hx := B.exec
    have hb := B.bytes
    generalize hrt : mrt y = rt at hr hd hret
    rcases rt with _ | rt
    · cases r with
      | some v => exact hr.elim
      | none => exact W.vret hx hb hret hq hV'.2.2 hd
    · rcases r with _ | v
      · cases rt <;> exact hr.elim
      · cases rt with
        | int =>
          rcases v with x | q
          · exact W.iret hx hb hret hq hV'.2.2 hd
          · exact hr.elim
        | boolean =>
          rcases v with x | q
          · refine W.zret hx hb hret ?_ hq hV'.2.2 hd
            rcases hr with rfl | rfl <;> rfl
          · exact hr.elim
        | char =>
          rcases v with x | q
          · refine W.zret hx hb hret ?_ hq hV'.2.2 hd
            have := (pk_charN (q := x.toNat) (by have := hr.1; have := hr.2; omega)).1
            rw [oi_nI, Int.toNat_of_nonneg hr.1] at this
            exact this
          · exact hr.elim
        | object n =>
          rcases v with x | q
          · exact hr.elim
          · exact W.aret hx hb hret (Or.inl ⟨n, rfl⟩) (by cases q with | none => exact Or.inl rfl | some o => exact Or.inr ⟨_, rfl⟩) hq hV'.2.2 hd
        | _ => exact hr.elim
def cpA (μ : Int → Int → Int) (src dst n : Int) : Int → Int → Int := fun o k => if o = dst ∧ 0 ≤ k ∧ k < n then μ src k else μ o k
section RX
variable {y : MI} {t0 pc pc' tgt : Nat} {L L' : List (Option Vv)} {S : List Vv} {ρ : Int → Int → Option Int} {t : Nat} {μ : Int → Int → Int} {Mf : Mm} {r : Option Vv}
theorem wl_cpy {G : Gg} {src dst : Int} {n : Nat} {q : Nat} (hq : ¬ q < 8 ∧ kt q < 2) (hv : vk t dst q) : (wl G (ρ, t, μ)).set dst.toNat (adr G dst, .inl (gA G (kt q), kl q, .inl (va_cpy (fun j => Int32.ofInt (μ src j)) (fun j => Int32.ofInt (μ dst j)) 0 0 n))) = wl G (ρ, t, cpA μ src dst n) := by
  obtain ⟨h1, h2, h3⟩ := hv
  refine wl_set (M := (ρ, t, μ)) (M' := (ρ, t, cpA μ src dst n)) h1 rfl (fun z hz => ce_congr (fun _ => rfl) (fun j => if_neg (fun h => hz h.1))) ?_
  rw [ce_int h3 hq.1 hq.2]
  congr 4
  funext j
  show Int32.ofInt (cpA μ src dst n dst j) = va_cpy (fun j => Int32.ofInt (μ src j)) (fun j => Int32.ofInt (μ dst j)) 0 0 n j
  unfold cpA va_cpy
  by_cases hj : j < n
  · rw [if_pos ⟨rfl, by omega, by omega⟩, if_pos ⟨by omega, by omega⟩]
    simp
  · rw [if_neg (by omega), if_neg (by omega)]
theorem r_copy {src dst n : Int} {q q1 idx : Nat} (hd : Dc y pc (.invokestatic idx) 3 pc') (hl : Cond.methodLink (mnm y).cls idx arraycopyName ∈ lw_g) (hq : 8 ≤ q ∧ kt q = 0 ∧ 8 ≤ q1 ∧ kt q1 = 0) (hv : vk 226 src q1) (hw : vk 226 dst q) (hn : 0 ≤ n ∧ n ≤ (kl q : Nat) ∧ n ≤ (kl q1 : Nat)) (hR : 1 ≤ (mrm y).frames ∧ S.length + (nativeFrameWords "java/lang/System" "arraycopy" 5 + 11) ≤ (mrm y).locals) (kk : SPW y t0 pc' L S (ρ, 226, cpA μ src dst n) r Mf) : SPW y t0 pc L (vI n :: vI 0 :: vR dst :: vI 0 :: vR src :: S) (ρ, 226, μ) r Mf := by
  intro G p l e s m args below meth c H locs ls Z C R Lk hS hV hfin
  obtain ⟨hd, rfl⟩ := hd
  have hts := C.2.2.2.2.1
  have hnr : rng n := vok_h hS
  have he1 := wl_get (G := G) (M := (ρ, 226, μ)) hv.1 hv.2.1
  rw [ce_int hv.2.2 (by omega) (by omega)] at he1
  have he2 := wl_get (G := G) (M := (ρ, 226, μ)) hw.1 hw.2.1
  rw [ce_int hw.2.2 (by omega) (by omega)] at he2
  have hn1 : (Int32.ofInt n).toNatClampNeg = n.toNat := oi_cl hnr
  have h01 : (Int32.ofInt 0).toNatClampNeg = 0 := rfl
  refine va_copyi C.1 C.2.1 (C.2.2.1.trans Lk.1.symm) C.2.2.2.1 (hts _ hl) (hts _ nat_copy) (hts _ stat_copy) (hts _ ini_System) C.2.2.2.2.2.1 R.1 wl_D hV src.toNat dst.toNat (kt q1) (kt q) he1 he2 (by rw [tys_at q1 (by omega), hq.2.2.2]) (by rw [tys_at q (by omega), hq.2.1]) rfl (by decide) (by decide) (by rw [oi_0, oi_lt hnr rng_0]; omega) (by rw [hn1, h01]; omega) (by rw [hn1, h01]; omega) (fun i _ => rfl) hR.1 (by rw [tv_cats]; exact hR.2) hd (fun H1 locs1 hP' hD' hV' => ?_)
  rw [hn1, h01, wl_cpy ⟨by omega, by omega⟩ hw, Int.toNat_of_nonneg hn.1] at hP'
  refine kk G p l e s m args below meth c H1 locs1 ls Z C ⟨hP', fun z => absurd z (Nat.lt_irrefl 226), fun o k => ?_, ?_⟩ Lk (vok_t (vok_t (vok_t (vok_t (vok_t hS))))) hV' hfin
  · show rng (cpA μ src dst n o k)
    unfold cpA
    split
    · exact R.2.2.1 _ _
    · exact R.2.2.1 _ _
  · have hk : ∀ k, cpA μ src dst n (-1) k = μ (-1) k := fun k => if_neg (fun h => by have := hw.1; omega)
    exact ⟨by show cpA μ src dst n (-1) (-1) = _; rw [hk]; exact R.2.2.2.1, fun j hj => by show Int32.ofInt (cpA μ src dst n (-1) j) = _; rw [hk]; exact R.2.2.2.2 j hj⟩
/-- the memory may be said otherwise, where no object of it differs -/
theorem r_conv {ρ' : Int → Int → Option Int} {μ' : Int → Int → Int} (hc : ∀ o : Int, 0 ≤ o → o < t → ∀ k : Nat, k < szo o → (kd o < 8 → (tyk (kd o) k = 2 → ρ o k = ρ' o k) ∧ (tyk (kd o) k ≠ 2 → μ o k = μ' o k)) ∧ (8 ≤ kd o → (kt (kd o) < 2 → μ o k = μ' o k) ∧ (2 ≤ kt (kd o) → ρ o k = ρ' o k))) (hr : (∀ o k, rng (μ o k)) → ∀ o k, rng (μ' o k)) (hs : ∀ k, μ' (-1) k = μ (-1) k) (kk : SPW y t0 pc L S (ρ', t, μ') r Mf) : SPW y t0 pc L S (ρ, t, μ) r Mf := by
  intro G p l e s m args below meth c H locs ls Z C R Lk hS hV hfin
  refine kk G p l e s m args below meth c H locs ls Z C ⟨?_, R.2.1, hr R.2.2.1, ⟨by show μ' (-1) (-1) = _; rw [hs]; exact R.2.2.2.1, fun j hj => by show Int32.ofInt (μ' (-1) j) = _; rw [hs]; exact R.2.2.2.2 j hj⟩⟩ Lk hS hV hfin
  intro i q hq
  have hlt : i < t := by
    have := (List.getElem?_eq_some_iff.mp hq).1
    unfold wl at this
    simpa using this
  have h1 := wl_get (G := G) (M := (ρ', t, μ')) (o := (i : Int)) (by omega) (by show (i : Int) < (t : Int); omega)
  have h2 := wl_get (G := G) (M := (ρ, t, μ)) (o := (i : Int)) (by omega) (by show (i : Int) < (t : Int); omega)
  rw [Int.toNat_natCast] at h1 h2
  have h3 := R.1 i _ h2
  cases hq.symm.trans h1
  have ho := hc i (by omega) (by omega)
  by_cases hz : kd (i : Int) < 8
  · rw [ce_obj rfl hz] at h3 ⊢
    have e : (List.range (nfd (kd (i : Int)))).map (fvl G (ρ, t, μ) (kd (i : Int)) i) = (List.range (nfd (kd (i : Int)))).map (fvl G (ρ', t, μ') (kd (i : Int)) i) := by
      apply List.map_congr_left
      intro k hk
      have hk' := List.mem_range.mp hk
      obtain ⟨a1, -⟩ := ho k (by unfold szo; rw [if_pos hz]; exact hk')
      obtain ⟨b1, b2⟩ := a1 hz
      by_cases h2 : tyk (kd (i : Int)) k = 2
      · rw [fvl_ref h2, fvl_ref h2]
        dsimp only
        rw [b1 h2]
      · rw [fvl_int h2, fvl_int h2]
        dsimp only
        rw [b2 h2]
    rw [← e]
    exact h3
  · by_cases h2 : kt (kd (i : Int)) < 2
    · rw [ce_int rfl hz h2] at h3 ⊢
      have h3 : H[adr G i]? = some (vp_cell _ (_, .inl (fun j => Int32.ofInt (μ i j)))) := h3
      show H[adr G i]? = some (vp_cell _ (_, .inl (fun j => Int32.ofInt (μ' i j))))
      rw [h3, vp_cell_i, vp_cell_i]
      congr 1
      unfold arrV
      congr 1
      apply congrArg
      funext j
      have := ((ho j.val (by unfold szo; rw [if_neg hz]; exact j.isLt)).2 (by omega)).1 h2
      dsimp only
      rw [this]
    · rw [ce_ref rfl hz h2] at h3 ⊢
      have h3 : H[adr G i]? = some (vp_cell _ (_, .inr (.inr (.inr (.inr (fun j => (ρ i j).map (adr G))))))) := h3
      show H[adr G i]? = some (vp_cell _ (_, .inr (.inr (.inr (.inr (fun j => (ρ' i j).map (adr G)))))))
      rw [h3, vp_cell_q, vp_cell_q]
      congr 1
      unfold arrV
      congr 1
      apply congrArg
      funext j
      have := ((ho j.val (by unfold szo; rw [if_neg hz]; exact j.isLt)).2 (by omega)).2 (by omega)
      dsimp only
      rw [this]
/-- the law's script: object -1 -/
theorem r_slen (hd : Dc y pc .arraylength 1 pc') (hy : (mnm y).name = "law") (kk : SPW y t0 pc' L (vI (μ (-1) (-1)) :: S) (ρ, t, μ) r Mf) : SPW y t0 pc L (vR (-1) :: S) (ρ, t, μ) r Mf := by
  intro G p l e s m args below meth c H locs ls Z C R Lk hS hV hfin
  obtain ⟨hd, rfl⟩ := hd
  obtain ⟨hX, hlt⟩ := C.2.2.2.2.2.2.2.2.2 hy
  refine va_slen C.1 C.2.1 hX (Nat.lt_of_lt_of_le hlt C.2.2.2.2.2.2.2.2.1) (Nat.not_le.mpr hlt) hV hd ?_
  have he : Int32.ofNat (gL G) = Int32.ofInt (μ (-1) (-1)) := by rw [show μ (-1) (-1) = (gL G : Int) from R.2.2.2.1]; rfl
  rw [he]
  exact kk G p l e s m args below meth c H locs ls Z C R Lk (vok_c (v := vI _) (R.2.2.1 (-1) (-1)) (vok_t hS)) hV hfin
theorem r_sld {i : Int} (hd : Dc y pc .iaload 1 pc') (hy : (mnm y).name = "law") (h0 : 0 ≤ i) (hi : i < μ (-1) (-1)) (kk : SPW y t0 pc' L (vI (μ (-1) i) :: S) (ρ, t, μ) r Mf) : SPW y t0 pc L (vI i :: vR (-1) :: S) (ρ, t, μ) r Mf := by
  intro G p l e s m args below meth c H locs ls Z C R Lk hS hV hfin
  obtain ⟨hd, rfl⟩ := hd
  obtain ⟨hX, hlt⟩ := C.2.2.2.2.2.2.2.2.2 hy
  have hi' : i < (gL G : Int) := by rw [← show μ (-1) (-1) = (gL G : Int) from R.2.2.2.1]; exact hi
  obtain ⟨e1, e2⟩ := ix_ok (n := gL G) (vok_h hS) h0 hi'
  refine va_sld C.1 C.2.1 hX (Nat.lt_of_lt_of_le hlt C.2.2.2.2.2.2.2.2.1) (Nat.not_le.mpr hlt) hV e1 hd ?_
  rw [e2]
  have he : gx G i.toNat = Int32.ofInt (μ (-1) i) := by
    rw [← R.2.2.2.2 i.toNat (by omega), Int.toNat_of_nonneg h0]
  rw [he]
  exact kk G p l e s m args below meth c H locs ls Z C R Lk (vok_c (v := vI _) (R.2.2.1 (-1) i) (vok_t (vok_t hS))) hV hfin
end RX
end
section
/-! the finished objects: R0 says who points to whom; arities of calls; truth values -/
def R0 (o k : Int) : Option Int :=
  if kd o = 3 then (if k = 0 then some (o + 1) else if k = 1 then some (o + 18) else some (o + 19))
  else if kd o = 17 ∨ kd o = 18 ∨ kd o = 20 then some (o + 1 + k)
  else if kd o = 19 then some (81 + 26 * k)
  else if kd o = 6 then (if k = 0 then some 1 else if k = 1 then some 27 else if k = 2 then some 53 else if k = 4 then some 79 else if k = 5 then some 185 else some 218)
  else if kd o = 2 then some 80
  else if kd o = 5 then (if k = 0 then some 186 else some 187)
  else (if k = 0 then some 220 else if k = 1 then some 221 else if k = 2 then some 222 else if k = 4 then some 223 else if k = 6 then some 224 else some 225)
abbrev st (μ : Int → Int → Int) : Mm := (R0, 226, μ)
theorem vkd {t : Nat} {o : Int} {ci : Nat} (h : (decide (0 ≤ o) && (decide (o < (t : Int)) && decide (kd o = ci))) = true) : vk t o ci := by
  simp only [Bool.and_eq_true, decide_eq_true_eq] at h
  exact h
/-- the seven States -/
def stB (b : Int) : Prop := b = 1 ∨ b = 27 ∨ b = 53 ∨ b = 81 ∨ b = 107 ∨ b = 133 ∨ b = 159
theorem kd_st {b j : Int} (hb : stB b) (h0 : 0 ≤ j) (h1 : j < 26) : kd (b + j) = kS j := by
  unfold stB at hb
  unfold kd
  by_cases hl : b < 80
  · rw [if_neg (by omega), if_neg (by omega), if_pos (by omega), show (b + j - 1) % 26 = j by omega]
  · rw [if_neg (by omega), if_neg (by omega), if_neg (by omega), if_neg (by omega), if_neg (by omega), if_pos (by omega), show (b + j - 81) % 26 = j by omega]
theorem vk_st {b : Int} (hb : stB b) : vk 226 b 3 := by
  have h := kd_st hb (Int.le_refl 0) (by omega)
  rw [Int.add_zero] at h
  unfold stB at hb
  exact ⟨by omega, by omega, h⟩
theorem vk_j {b j : Int} {q : Nat} (hb : stB b) (h0 : 0 ≤ j) (h1 : j < 26) (hq : kS j = q) : vk 226 (b + j) q := by
  have h := kd_st hb h0 h1
  unfold stB at hb
  exact ⟨by omega, by omega, h.trans hq⟩
theorem kS_blk {j : Int} (h0 : 2 ≤ j) (h1 : j < 18) : kS j = 0 := by
  unfold kS
  rw [if_neg (by omega), if_neg (by omega), if_pos h1]
theorem kS_tsk {j : Int} (h0 : 20 ≤ j) : kS j = 4 := by
  unfold kS
  rw [if_neg (by omega), if_neg (by omega), if_neg (by omega), if_neg (by omega), if_neg (by omega)]
theorem vk_b {b i : Int} (hb : stB b) (h0 : 0 ≤ i) (h1 : i < 16) : vk 226 (b + 2 + i) 0 := by
  have h := vk_j (j := 2 + i) hb (by omega) (by omega) (kS_blk (by omega) (by omega))
  rw [show b + 2 + i = b + (2 + i) by omega]
  exact h
theorem vk_t {b i : Int} (hb : stB b) (h0 : 0 ≤ i) (h1 : i < 6) : vk 226 (b + 20 + i) 4 := by
  have h := vk_j (j := 20 + i) hb (by omega) (by omega) (kS_tsk (by omega))
  rw [show b + 20 + i = b + (20 + i) by omega]
  exact h
theorem stB_1 : stB 1 := Or.inl rfl
theorem vk_blk {i : Int} (h0 : 0 ≤ i) (h1 : i < 16) : vk 226 (3 + i) 0 := vk_b stB_1 h0 h1
theorem vk_tsk {i : Int} (h0 : 0 ≤ i) (h1 : i < 6) : vk 226 (21 + i) 4 := vk_t stB_1 h0 h1
theorem vk_cmd {i : Int} (h0 : 0 ≤ i) (h1 : i < 30) : vk 226 (188 + i) 1 := by
  refine ⟨by omega, by omega, ?_⟩
  unfold kd
  rw [if_neg (by omega), if_neg (by omega), if_neg (by omega), if_neg (by omega), if_neg (by omega), if_neg (by omega), if_neg (by omega), if_neg (by omega), if_neg (by omega), if_pos (by omega)]
theorem stB_h {j : Int} (h0 : 0 ≤ j) (h1 : j < 4) : stB (81 + 26 * j) := by
  unfold stB
  omega
theorem vk_hst {i : Int} (h0 : 0 ≤ i) (h1 : i < 4) : vk 226 (81 + 26 * i) 3 := vk_st (stB_h h0 h1)
theorem R0_s0 {b : Int} (hb : stB b) : R0 b 0 = some (b + 1) := by
  unfold R0
  rw [if_pos (vk_st hb).2.2, if_pos rfl]
theorem R0_s1 {b : Int} (hb : stB b) : R0 b 1 = some (b + 18) := by
  unfold R0
  rw [if_pos (vk_st hb).2.2, if_neg (by omega), if_pos rfl]
theorem R0_s2 {b : Int} (hb : stB b) : R0 b 2 = some (b + 19) := by
  unfold R0
  rw [if_pos (vk_st hb).2.2, if_neg (by omega), if_neg (by omega)]
theorem R0_b {b i : Int} (hb : stB b) : R0 (b + 1) i = some (b + 2 + i) := by
  have h := (vk_j (j := 1) (q := 17) hb (by omega) (by omega) rfl).2.2
  unfold R0
  rw [if_neg (by rw [h]; decide), if_pos (Or.inl h)]
  congr 1
  omega
theorem R0_t {b i : Int} (hb : stB b) : R0 (b + 19) i = some (b + 20 + i) := by
  have h := (vk_j (j := 19) (q := 18) hb (by omega) (by omega) rfl).2.2
  unfold R0
  rw [if_neg (by rw [h]; decide), if_pos (Or.inr (Or.inl h))]
  congr 1
  omega
theorem R0_2 {i : Int} : R0 2 i = some (3 + i) := R0_b stB_1
theorem R0_20 {i : Int} : R0 20 i = some (21 + i) := R0_t stB_1
theorem R0_80 {i : Int} : R0 80 i = some (81 + 26 * i) := rfl
theorem R0_187 {i : Int} : R0 187 i = some (188 + i) := by
  unfold R0
  rw [if_neg (by decide), if_pos (by decide)]
  congr 1
/-- a truth value as the machine has it -/
def b2 (p : Prop) [Decidable p] : Int := if p then 1 else 0
theorem b2_t {p : Prop} [Decidable p] (h : p) : b2 p = 1 := if_pos h
theorem b2_f {p : Prop} [Decidable p] (h : ¬ p) : b2 p = 0 := if_neg h
theorem b2_01 {p : Prop} [Decidable p] : b2 p = 0 ∨ b2 p = 1 := by
  by_cases h : p
  · exact Or.inr (b2_t h)
  · exact Or.inl (b2_f h)
theorem b2_iff {p q : Prop} [Decidable p] [Decidable q] (h : p ↔ q) : b2 p = b2 q := by
  by_cases hp : p
  · rw [b2_t hp, b2_t (h.mp hp)]
  · rw [b2_f hp, b2_f (fun x => hp (h.mpr x))]
section RS
variable {y y' : MI} {t0 pc pc' tgt idx n ci : Nat} {L L' : List (Option Vv)} {S : List Vv} {M M1 Mf : Mm} {r : Option Vv} {o : Int} {w v1 v2 v3 v4 : Vv}
theorem r_if_eq_b {p : Prop} [Decidable p] {off : Int} (hd : Db y pc (.ifCond .eq off) off pc' tgt) (kt : ¬ p → SPW y t0 tgt L S M r Mf) (kf : p → SPW y t0 pc' L S M r Mf) : SPW y t0 pc L (vI (b2 p) :: S) M r Mf :=
  r_if_eq hd (fun h => kt (fun q => by rw [b2_t q] at h; omega)) (fun h => kf (by by_cases q : p; exact q; exact absurd (b2_f q) h))
theorem r_if_ne_b {p : Prop} [Decidable p] {off : Int} (hd : Db y pc (.ifCond .ne off) off pc' tgt) (kt : p → SPW y t0 tgt L S M r Mf) (kf : ¬ p → SPW y t0 pc' L S M r Mf) : SPW y t0 pc L (vI (b2 p) :: S) M r Mf :=
  r_if_ne hd (fun h => kt (by by_cases q : p; exact q; exact absurd (b2_f q) h)) (fun h => kf (fun q => by rw [b2_t q] at h; omega))
theorem r_know (kk : (∀ v ∈ S, vok v) → (∀ (i : Nat) (v : Vv), L[i]? = some (some v) → vok v) → (∀ o k, rng (M.2.2 o k)) → SPW y t0 pc L S M r Mf) : SPW y t0 pc L S M r Mf := by
  intro G p l e s m args below meth c H locs ls Z C R Lk hS hV hfin
  exact kk hS (fun i v h => (Lk.2.2.2 i v h).2) R.2.2.1 G p l e s m args below meth c H locs ls Z C R Lk hS hV hfin
theorem r_retI {a b : Int} (hd : decode (mbc y) pc = .ok (retI (mrt y), 1)) (ha : a = b) (hM : M = Mf) : SPW y t0 pc L [vI a] M (some (vI b)) Mf := r_ret hd (by rw [ha]; rfl) hM
theorem r_retR {a b : Option Int} (hd : decode (mbc y) pc = .ok (retI (mrt y), 1)) (ha : a = b) (hM : M = Mf) : SPW y t0 pc L [.inr a] M (some (.inr b)) Mf := r_ret hd (by rw [ha]; rfl) hM
theorem r_retV (hd : decode (mbc y) pc = .ok (retI (mrt y), 1)) (hM : M = Mf) : SPW y t0 pc L [] M none Mf := r_ret hd rfl hM
theorem r_to {M' : Mm} (h : M = M') (kk : SPW y t0 pc L S M' r Mf) : SPW y t0 pc L S M r Mf := h ▸ kk
/-- a call's room where no cell is made: frames and words by computation -/
theorem clS {μ μ' : Int → Int → Int} (h : (Nat.ble ((mrm y').frames + 1) (mrm y).frames && (Nat.ble (8 + (mml y' + 11) + (mrm y').locals) (mrm y).locals && (Nat.beq (mrm y').cells 0 && Nat.beq (mrm y').slots 0))) = true) (ht : t0 ≤ 226) (hr : rmOK y t0 226) : clOK y y' t0 (st μ) (st μ') := by
  simp only [Bool.and_eq_true] at h
  obtain ⟨h1, h2, h3, h4⟩ := h
  refine ⟨Nat.le_of_ble_eq_true h1, Nat.le_of_ble_eq_true h2, ?_, ?_, ht, Nat.le_refl _, hr⟩
  · rw [Nat.eq_of_beq_eq_true h3]; exact (Nat.sub_self _).symm
  · rw [Nat.eq_of_beq_eq_true h4]; exact (Nat.sub_self _).symm
theorem r_V0W (hd : Dc y pc (.invokevirtual idx) 3 pc') (hl : Cond.methodLink (mnm y).cls idx (mnm y') ∈ lw_g) (ok : mOK y' 0) (vi : mVirt y') (hv : vk M.2.1 o ci) (hc : ci < 8 ∧ cnm ci = (mnm y').cls) (hcl : clOK y y' t0 M M1) (hlen : Nat.ble S.length 8 = true) (hM : MetC y' [vR o] M (some w) M1) (kk : SPW y t0 pc' L (w :: S) M1 r Mf) : SPW y t0 pc L (vR o :: S) M r Mf := r_callV_ (As := []) (r1 := (some w)) hd hl ok vi hM rfl hv hc hcl (Nat.le_of_ble_eq_true hlen) kk
theorem r_V0N (hd : Dc y pc (.invokevirtual idx) 3 pc') (hl : Cond.methodLink (mnm y).cls idx (mnm y') ∈ lw_g) (ok : mOK y' 0) (vi : mVirt y') (hv : vk M.2.1 o ci) (hc : ci < 8 ∧ cnm ci = (mnm y').cls) (hcl : clOK y y' t0 M M1) (hlen : Nat.ble S.length 8 = true) (hM : MetC y' [vR o] M none M1) (kk : SPW y t0 pc' L S M1 r Mf) : SPW y t0 pc L (vR o :: S) M r Mf := r_callV_ (As := []) (r1 := none) hd hl ok vi hM rfl hv hc hcl (Nat.le_of_ble_eq_true hlen) kk
theorem r_V1W (hd : Dc y pc (.invokevirtual idx) 3 pc') (hl : Cond.methodLink (mnm y).cls idx (mnm y') ∈ lw_g) (ok : mOK y' 1) (vi : mVirt y') (hv : vk M.2.1 o ci) (hc : ci < 8 ∧ cnm ci = (mnm y').cls) (hcl : clOK y y' t0 M M1) (hlen : Nat.ble S.length 8 = true) (hM : MetC y' [vR o, v1] M (some w) M1) (kk : SPW y t0 pc' L (w :: S) M1 r Mf) : SPW y t0 pc L (v1 :: vR o :: S) M r Mf := r_callV_ (As := [v1]) (r1 := (some w)) hd hl ok vi hM rfl hv hc hcl (Nat.le_of_ble_eq_true hlen) kk
theorem r_V1N (hd : Dc y pc (.invokevirtual idx) 3 pc') (hl : Cond.methodLink (mnm y).cls idx (mnm y') ∈ lw_g) (ok : mOK y' 1) (vi : mVirt y') (hv : vk M.2.1 o ci) (hc : ci < 8 ∧ cnm ci = (mnm y').cls) (hcl : clOK y y' t0 M M1) (hlen : Nat.ble S.length 8 = true) (hM : MetC y' [vR o, v1] M none M1) (kk : SPW y t0 pc' L S M1 r Mf) : SPW y t0 pc L (v1 :: vR o :: S) M r Mf := r_callV_ (As := [v1]) (r1 := none) hd hl ok vi hM rfl hv hc hcl (Nat.le_of_ble_eq_true hlen) kk
theorem r_V2W (hd : Dc y pc (.invokevirtual idx) 3 pc') (hl : Cond.methodLink (mnm y).cls idx (mnm y') ∈ lw_g) (ok : mOK y' 2) (vi : mVirt y') (hv : vk M.2.1 o ci) (hc : ci < 8 ∧ cnm ci = (mnm y').cls) (hcl : clOK y y' t0 M M1) (hlen : Nat.ble S.length 8 = true) (hM : MetC y' [vR o, v1, v2] M (some w) M1) (kk : SPW y t0 pc' L (w :: S) M1 r Mf) : SPW y t0 pc L (v2 :: v1 :: vR o :: S) M r Mf := r_callV_ (As := [v1, v2]) (r1 := (some w)) hd hl ok vi hM rfl hv hc hcl (Nat.le_of_ble_eq_true hlen) kk
theorem r_V2N (hd : Dc y pc (.invokevirtual idx) 3 pc') (hl : Cond.methodLink (mnm y).cls idx (mnm y') ∈ lw_g) (ok : mOK y' 2) (vi : mVirt y') (hv : vk M.2.1 o ci) (hc : ci < 8 ∧ cnm ci = (mnm y').cls) (hcl : clOK y y' t0 M M1) (hlen : Nat.ble S.length 8 = true) (hM : MetC y' [vR o, v1, v2] M none M1) (kk : SPW y t0 pc' L S M1 r Mf) : SPW y t0 pc L (v2 :: v1 :: vR o :: S) M r Mf := r_callV_ (As := [v1, v2]) (r1 := none) hd hl ok vi hM rfl hv hc hcl (Nat.le_of_ble_eq_true hlen) kk
theorem r_V3W (hd : Dc y pc (.invokevirtual idx) 3 pc') (hl : Cond.methodLink (mnm y).cls idx (mnm y') ∈ lw_g) (ok : mOK y' 3) (vi : mVirt y') (hv : vk M.2.1 o ci) (hc : ci < 8 ∧ cnm ci = (mnm y').cls) (hcl : clOK y y' t0 M M1) (hlen : Nat.ble S.length 8 = true) (hM : MetC y' [vR o, v1, v2, v3] M (some w) M1) (kk : SPW y t0 pc' L (w :: S) M1 r Mf) : SPW y t0 pc L (v3 :: v2 :: v1 :: vR o :: S) M r Mf := r_callV_ (As := [v1, v2, v3]) (r1 := (some w)) hd hl ok vi hM rfl hv hc hcl (Nat.le_of_ble_eq_true hlen) kk
theorem r_V3N (hd : Dc y pc (.invokevirtual idx) 3 pc') (hl : Cond.methodLink (mnm y).cls idx (mnm y') ∈ lw_g) (ok : mOK y' 3) (vi : mVirt y') (hv : vk M.2.1 o ci) (hc : ci < 8 ∧ cnm ci = (mnm y').cls) (hcl : clOK y y' t0 M M1) (hlen : Nat.ble S.length 8 = true) (hM : MetC y' [vR o, v1, v2, v3] M none M1) (kk : SPW y t0 pc' L S M1 r Mf) : SPW y t0 pc L (v3 :: v2 :: v1 :: vR o :: S) M r Mf := r_callV_ (As := [v1, v2, v3]) (r1 := none) hd hl ok vi hM rfl hv hc hcl (Nat.le_of_ble_eq_true hlen) kk
theorem r_V4W (hd : Dc y pc (.invokevirtual idx) 3 pc') (hl : Cond.methodLink (mnm y).cls idx (mnm y') ∈ lw_g) (ok : mOK y' 4) (vi : mVirt y') (hv : vk M.2.1 o ci) (hc : ci < 8 ∧ cnm ci = (mnm y').cls) (hcl : clOK y y' t0 M M1) (hlen : Nat.ble S.length 8 = true) (hM : MetC y' [vR o, v1, v2, v3, v4] M (some w) M1) (kk : SPW y t0 pc' L (w :: S) M1 r Mf) : SPW y t0 pc L (v4 :: v3 :: v2 :: v1 :: vR o :: S) M r Mf := r_callV_ (As := [v1, v2, v3, v4]) (r1 := (some w)) hd hl ok vi hM rfl hv hc hcl (Nat.le_of_ble_eq_true hlen) kk
theorem r_V4N (hd : Dc y pc (.invokevirtual idx) 3 pc') (hl : Cond.methodLink (mnm y).cls idx (mnm y') ∈ lw_g) (ok : mOK y' 4) (vi : mVirt y') (hv : vk M.2.1 o ci) (hc : ci < 8 ∧ cnm ci = (mnm y').cls) (hcl : clOK y y' t0 M M1) (hlen : Nat.ble S.length 8 = true) (hM : MetC y' [vR o, v1, v2, v3, v4] M none M1) (kk : SPW y t0 pc' L S M1 r Mf) : SPW y t0 pc L (v4 :: v3 :: v2 :: v1 :: vR o :: S) M r Mf := r_callV_ (As := [v1, v2, v3, v4]) (r1 := none) hd hl ok vi hM rfl hv hc hcl (Nat.le_of_ble_eq_true hlen) kk
theorem r_S0W (hd : Dc y pc (.invokestatic idx) 3 pc') (hl : Cond.methodLink (mnm y).cls idx (mnm y') ∈ lw_g) (ok : mOK y' 0) (sta : Cond.static (mnm y') ∈ lw_g) (hcl : clOK y y' t0 M M1) (hlen : Nat.ble S.length 8 = true) (hM : MetC y' [] M (some w) M1) (kk : SPW y t0 pc' L (w :: S) M1 r Mf) : SPW y t0 pc L (S) M r Mf := r_callS_ (As := []) (r1 := (some w)) hd hl ok sta hM rfl hcl (Nat.le_of_ble_eq_true hlen) kk
theorem r_S0N (hd : Dc y pc (.invokestatic idx) 3 pc') (hl : Cond.methodLink (mnm y).cls idx (mnm y') ∈ lw_g) (ok : mOK y' 0) (sta : Cond.static (mnm y') ∈ lw_g) (hcl : clOK y y' t0 M M1) (hlen : Nat.ble S.length 8 = true) (hM : MetC y' [] M none M1) (kk : SPW y t0 pc' L S M1 r Mf) : SPW y t0 pc L (S) M r Mf := r_callS_ (As := []) (r1 := none) hd hl ok sta hM rfl hcl (Nat.le_of_ble_eq_true hlen) kk
theorem r_S1W (hd : Dc y pc (.invokestatic idx) 3 pc') (hl : Cond.methodLink (mnm y).cls idx (mnm y') ∈ lw_g) (ok : mOK y' 1) (sta : Cond.static (mnm y') ∈ lw_g) (hcl : clOK y y' t0 M M1) (hlen : Nat.ble S.length 8 = true) (hM : MetC y' [v1] M (some w) M1) (kk : SPW y t0 pc' L (w :: S) M1 r Mf) : SPW y t0 pc L (v1 :: S) M r Mf := r_callS_ (As := [v1]) (r1 := (some w)) hd hl ok sta hM rfl hcl (Nat.le_of_ble_eq_true hlen) kk
theorem r_S1N (hd : Dc y pc (.invokestatic idx) 3 pc') (hl : Cond.methodLink (mnm y).cls idx (mnm y') ∈ lw_g) (ok : mOK y' 1) (sta : Cond.static (mnm y') ∈ lw_g) (hcl : clOK y y' t0 M M1) (hlen : Nat.ble S.length 8 = true) (hM : MetC y' [v1] M none M1) (kk : SPW y t0 pc' L S M1 r Mf) : SPW y t0 pc L (v1 :: S) M r Mf := r_callS_ (As := [v1]) (r1 := none) hd hl ok sta hM rfl hcl (Nat.le_of_ble_eq_true hlen) kk
theorem r_S2W (hd : Dc y pc (.invokestatic idx) 3 pc') (hl : Cond.methodLink (mnm y).cls idx (mnm y') ∈ lw_g) (ok : mOK y' 2) (sta : Cond.static (mnm y') ∈ lw_g) (hcl : clOK y y' t0 M M1) (hlen : Nat.ble S.length 8 = true) (hM : MetC y' [v1, v2] M (some w) M1) (kk : SPW y t0 pc' L (w :: S) M1 r Mf) : SPW y t0 pc L (v2 :: v1 :: S) M r Mf := r_callS_ (As := [v1, v2]) (r1 := (some w)) hd hl ok sta hM rfl hcl (Nat.le_of_ble_eq_true hlen) kk
theorem r_S2N (hd : Dc y pc (.invokestatic idx) 3 pc') (hl : Cond.methodLink (mnm y).cls idx (mnm y') ∈ lw_g) (ok : mOK y' 2) (sta : Cond.static (mnm y') ∈ lw_g) (hcl : clOK y y' t0 M M1) (hlen : Nat.ble S.length 8 = true) (hM : MetC y' [v1, v2] M none M1) (kk : SPW y t0 pc' L S M1 r Mf) : SPW y t0 pc L (v2 :: v1 :: S) M r Mf := r_callS_ (As := [v1, v2]) (r1 := none) hd hl ok sta hM rfl hcl (Nat.le_of_ble_eq_true hlen) kk
theorem r_S3W (hd : Dc y pc (.invokestatic idx) 3 pc') (hl : Cond.methodLink (mnm y).cls idx (mnm y') ∈ lw_g) (ok : mOK y' 3) (sta : Cond.static (mnm y') ∈ lw_g) (hcl : clOK y y' t0 M M1) (hlen : Nat.ble S.length 8 = true) (hM : MetC y' [v1, v2, v3] M (some w) M1) (kk : SPW y t0 pc' L (w :: S) M1 r Mf) : SPW y t0 pc L (v3 :: v2 :: v1 :: S) M r Mf := r_callS_ (As := [v1, v2, v3]) (r1 := (some w)) hd hl ok sta hM rfl hcl (Nat.le_of_ble_eq_true hlen) kk
theorem r_S3N (hd : Dc y pc (.invokestatic idx) 3 pc') (hl : Cond.methodLink (mnm y).cls idx (mnm y') ∈ lw_g) (ok : mOK y' 3) (sta : Cond.static (mnm y') ∈ lw_g) (hcl : clOK y y' t0 M M1) (hlen : Nat.ble S.length 8 = true) (hM : MetC y' [v1, v2, v3] M none M1) (kk : SPW y t0 pc' L S M1 r Mf) : SPW y t0 pc L (v3 :: v2 :: v1 :: S) M r Mf := r_callS_ (As := [v1, v2, v3]) (r1 := none) hd hl ok sta hM rfl hcl (Nat.le_of_ble_eq_true hlen) kk
theorem r_I0N (hd : Dc y pc (.invokespecial idx) 3 pc') (hl : Cond.methodLink (mnm y).cls idx (mnm y') ∈ lw_g) (ok : mOK y' 0) (inst : Cond.instanceMethod (mnm y') ∈ lw_g) (hy : (mnm y').name = "<init>" ∧ mrt y' = none) (hcl : clOK y y' t0 M M1) (hlen : Nat.ble S.length 8 = true) (hM : MetC y' [vR o] M none M1) (kk : SPW y t0 pc' L S M1 r Mf) : SPW y t0 pc L (vR o :: S) M r Mf := r_callI_ (As := []) (r1 := none) hd hl ok inst hy hM rfl hcl (Nat.le_of_ble_eq_true hlen) kk
theorem r_I1N (hd : Dc y pc (.invokespecial idx) 3 pc') (hl : Cond.methodLink (mnm y).cls idx (mnm y') ∈ lw_g) (ok : mOK y' 1) (inst : Cond.instanceMethod (mnm y') ∈ lw_g) (hy : (mnm y').name = "<init>" ∧ mrt y' = none) (hcl : clOK y y' t0 M M1) (hlen : Nat.ble S.length 8 = true) (hM : MetC y' [vR o, v1] M none M1) (kk : SPW y t0 pc' L S M1 r Mf) : SPW y t0 pc L (v1 :: vR o :: S) M r Mf := r_callI_ (As := [v1]) (r1 := none) hd hl ok inst hy hM rfl hcl (Nat.le_of_ble_eq_true hlen) kk
theorem r_I2N (hd : Dc y pc (.invokespecial idx) 3 pc') (hl : Cond.methodLink (mnm y).cls idx (mnm y') ∈ lw_g) (ok : mOK y' 2) (inst : Cond.instanceMethod (mnm y') ∈ lw_g) (hy : (mnm y').name = "<init>" ∧ mrt y' = none) (hcl : clOK y y' t0 M M1) (hlen : Nat.ble S.length 8 = true) (hM : MetC y' [vR o, v1, v2] M none M1) (kk : SPW y t0 pc' L S M1 r Mf) : SPW y t0 pc L (v2 :: v1 :: vR o :: S) M r Mf := r_callI_ (As := [v1, v2]) (r1 := none) hd hl ok inst hy hM rfl hcl (Nat.le_of_ble_eq_true hlen) kk
end RS
end
