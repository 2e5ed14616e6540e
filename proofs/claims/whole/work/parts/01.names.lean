-- ===== PART A: goes FIRST, ahead of the names: the tables' words, and 'selects' of the private methods out of them =====
/-- a private method of a class that the tables say can be made, by its rows of tables_1 -/
def lw_okq (q : MethodName × Nat) : Prop := (q.1.cls ≠ "java/lang/invoke/MethodHandle" ∧ q.1.cls ≠ "java/lang/invoke/VarHandle") ∧ Cond.instantiable q.1.cls q.2 ∈ tables_1 ∧ Cond.privateMethod q.1 ∈ tables_1 ∧ Cond.instanceMethod q.1 ∈ tables_1
theorem lw_p0 : lw_okq (⟨"KeptInside", "refusedAsBad", "()I"⟩, 14) := ⟨⟨by decide +kernel, by decide +kernel⟩, List.mem_of_getElem? (i := 20) (by decide +kernel), List.mem_of_getElem? (i := 308) (by decide +kernel), List.mem_of_getElem? (i := 309) (by decide +kernel)⟩
theorem lw_p1 : lw_okq (⟨"KeptInside", "refusedAsFull", "()I"⟩, 14) := ⟨⟨by decide +kernel, by decide +kernel⟩, List.mem_of_getElem? (i := 20) (by decide +kernel), List.mem_of_getElem? (i := 316) (by decide +kernel), List.mem_of_getElem? (i := 317) (by decide +kernel)⟩
theorem lw_p2 : lw_okq (⟨"KeptInside$Tokens", "add", "(II)V"⟩, 5) := ⟨⟨by decide +kernel, by decide +kernel⟩, List.mem_of_getElem? (i := 65) (by decide +kernel), List.mem_of_getElem? (i := 416) (by decide +kernel), List.mem_of_getElem? (i := 417) (by decide +kernel)⟩
theorem lw_p3 : lw_okq (⟨"KeptInside$Reader", "readMethod", "(I)V"⟩, 9) := ⟨⟨by decide +kernel, by decide +kernel⟩, List.mem_of_getElem? (i := 59) (by decide +kernel), List.mem_of_getElem? (i := 431) (by decide +kernel), List.mem_of_getElem? (i := 432) (by decide +kernel)⟩
theorem lw_p4 : lw_okq (⟨"KeptInside$Reader", "take", "(I)V"⟩, 9) := ⟨⟨by decide +kernel, by decide +kernel⟩, List.mem_of_getElem? (i := 59) (by decide +kernel), List.mem_of_getElem? (i := 439) (by decide +kernel), List.mem_of_getElem? (i := 440) (by decide +kernel)⟩
theorem lw_p5 : lw_okq (⟨"KeptInside$Reader", "refuse", "()V"⟩, 9) := ⟨⟨by decide +kernel, by decide +kernel⟩, List.mem_of_getElem? (i := 59) (by decide +kernel), List.mem_of_getElem? (i := 447) (by decide +kernel), List.mem_of_getElem? (i := 448) (by decide +kernel)⟩
theorem lw_p6 : lw_okq (⟨"KeptInside$Reader", "readLine", "(I)V"⟩, 9) := ⟨⟨by decide +kernel, by decide +kernel⟩, List.mem_of_getElem? (i := 59) (by decide +kernel), List.mem_of_getElem? (i := 455) (by decide +kernel), List.mem_of_getElem? (i := 456) (by decide +kernel)⟩
theorem lw_p7 : lw_okq (⟨"KeptInside$Reader", "takeName", "()I"⟩, 9) := ⟨⟨by decide +kernel, by decide +kernel⟩, List.mem_of_getElem? (i := 59) (by decide +kernel), List.mem_of_getElem? (i := 459) (by decide +kernel), List.mem_of_getElem? (i := 460) (by decide +kernel)⟩
theorem lw_p8 : lw_okq (⟨"KeptInside$Reader", "readPut", "()V"⟩, 9) := ⟨⟨by decide +kernel, by decide +kernel⟩, List.mem_of_getElem? (i := 59) (by decide +kernel), List.mem_of_getElem? (i := 466) (by decide +kernel), List.mem_of_getElem? (i := 467) (by decide +kernel)⟩
theorem lw_p9 : lw_okq (⟨"KeptInside$Reader", "readValue", "(I)V"⟩, 9) := ⟨⟨by decide +kernel, by decide +kernel⟩, List.mem_of_getElem? (i := 59) (by decide +kernel), List.mem_of_getElem? (i := 470) (by decide +kernel), List.mem_of_getElem? (i := 471) (by decide +kernel)⟩
theorem lw_p10 : lw_okq (⟨"KeptInside$Reader", "noteCall", "()V"⟩, 9) := ⟨⟨by decide +kernel, by decide +kernel⟩, List.mem_of_getElem? (i := 59) (by decide +kernel), List.mem_of_getElem? (i := 474) (by decide +kernel), List.mem_of_getElem? (i := 475) (by decide +kernel)⟩
theorem lw_p11 : lw_okq (⟨"KeptInside$Reader", "firstMissingCall", "()I"⟩, 9) := ⟨⟨by decide +kernel, by decide +kernel⟩, List.mem_of_getElem? (i := 59) (by decide +kernel), List.mem_of_getElem? (i := 487) (by decide +kernel), List.mem_of_getElem? (i := 488) (by decide +kernel)⟩
theorem lw_p12 : lw_okq (⟨"KeptInside", "leaveState", "()V"⟩, 14) := ⟨⟨by decide +kernel, by decide +kernel⟩, List.mem_of_getElem? (i := 20) (by decide +kernel), List.mem_of_getElem? (i := 495) (by decide +kernel), List.mem_of_getElem? (i := 496) (by decide +kernel)⟩
theorem lw_p13 : lw_okq (⟨"KeptInside$States", "loseOldest", "()V"⟩, 2) := ⟨⟨by decide +kernel, by decide +kernel⟩, List.mem_of_getElem? (i := 115) (by decide +kernel), List.mem_of_getElem? (i := 503) (by decide +kernel), List.mem_of_getElem? (i := 504) (by decide +kernel)⟩
theorem lw_p14 : lw_okq (⟨"KeptInside", "forgetFindings", "()V"⟩, 14) := ⟨⟨by decide +kernel, by decide +kernel⟩, List.mem_of_getElem? (i := 20) (by decide +kernel), List.mem_of_getElem? (i := 514) (by decide +kernel), List.mem_of_getElem? (i := 515) (by decide +kernel)⟩
theorem lw_p15 : lw_okq (⟨"KeptInside", "findMays", "()V"⟩, 14) := ⟨⟨by decide +kernel, by decide +kernel⟩, List.mem_of_getElem? (i := 20) (by decide +kernel), List.mem_of_getElem? (i := 551) (by decide +kernel), List.mem_of_getElem? (i := 552) (by decide +kernel)⟩
def lw_privs_1 : List (MethodName × Nat) := [(⟨"KeptInside", "refusedAsBad", "()I"⟩, 14), (⟨"KeptInside", "refusedAsFull", "()I"⟩, 14), (⟨"KeptInside$Tokens", "add", "(II)V"⟩, 5), (⟨"KeptInside$Reader", "readMethod", "(I)V"⟩, 9), (⟨"KeptInside$Reader", "take", "(I)V"⟩, 9), (⟨"KeptInside$Reader", "refuse", "()V"⟩, 9), (⟨"KeptInside$Reader", "readLine", "(I)V"⟩, 9), (⟨"KeptInside$Reader", "takeName", "()I"⟩, 9), (⟨"KeptInside$Reader", "readPut", "()V"⟩, 9), (⟨"KeptInside$Reader", "readValue", "(I)V"⟩, 9), (⟨"KeptInside$Reader", "noteCall", "()V"⟩, 9), (⟨"KeptInside$Reader", "firstMissingCall", "()I"⟩, 9), (⟨"KeptInside", "leaveState", "()V"⟩, 14), (⟨"KeptInside$States", "loseOldest", "()V"⟩, 2), (⟨"KeptInside", "forgetFindings", "()V"⟩, 14), (⟨"KeptInside", "findMays", "()V"⟩, 14)]
theorem lw_r1 : ∀ q ∈ lw_privs_1, lw_okq q := List.forall_mem_cons.mpr ⟨lw_p0, List.forall_mem_cons.mpr ⟨lw_p1, List.forall_mem_cons.mpr ⟨lw_p2, List.forall_mem_cons.mpr ⟨lw_p3, List.forall_mem_cons.mpr ⟨lw_p4, List.forall_mem_cons.mpr ⟨lw_p5, List.forall_mem_cons.mpr ⟨lw_p6, List.forall_mem_cons.mpr ⟨lw_p7, List.forall_mem_cons.mpr ⟨lw_p8, List.forall_mem_cons.mpr ⟨lw_p9, List.forall_mem_cons.mpr ⟨lw_p10, List.forall_mem_cons.mpr ⟨lw_p11, List.forall_mem_cons.mpr ⟨lw_p12, List.forall_mem_cons.mpr ⟨lw_p13, List.forall_mem_cons.mpr ⟨lw_p14, List.forall_mem_cons.mpr ⟨lw_p15, fun _ h => absurd h List.not_mem_nil⟩⟩⟩⟩⟩⟩⟩⟩⟩⟩⟩⟩⟩⟩⟩⟩
theorem lw_p16 : lw_okq (⟨"KeptInside$Methods", "code", "(II)I"⟩, 3) := ⟨⟨by decide +kernel, by decide +kernel⟩, List.mem_of_getElem? (i := 42) (by decide +kernel), List.mem_of_getElem? (i := 566) (by decide +kernel), List.mem_of_getElem? (i := 567) (by decide +kernel)⟩
theorem lw_p17 : lw_okq (⟨"KeptInside$Sites", "add", "(II)V"⟩, 4) := ⟨⟨by decide +kernel, by decide +kernel⟩, List.mem_of_getElem? (i := 131) (by decide +kernel), List.mem_of_getElem? (i := 570) (by decide +kernel), List.mem_of_getElem? (i := 571) (by decide +kernel)⟩
theorem lw_p18 : lw_okq (⟨"KeptInside$MaySets", "addByLine", "(II)V"⟩, 6) := ⟨⟨by decide +kernel, by decide +kernel⟩, List.mem_of_getElem? (i := 150) (by decide +kernel), List.mem_of_getElem? (i := 581) (by decide +kernel), List.mem_of_getElem? (i := 582) (by decide +kernel)⟩
theorem lw_p19 : lw_okq (⟨"KeptInside$MaySets", "addToName", "(III)V"⟩, 6) := ⟨⟨by decide +kernel, by decide +kernel⟩, List.mem_of_getElem? (i := 150) (by decide +kernel), List.mem_of_getElem? (i := 604) (by decide +kernel), List.mem_of_getElem? (i := 605) (by decide +kernel)⟩
theorem lw_p20 : lw_okq (⟨"KeptInside$MaySets", "addToFields", "(II)V"⟩, 6) := ⟨⟨by decide +kernel, by decide +kernel⟩, List.mem_of_getElem? (i := 150) (by decide +kernel), List.mem_of_getElem? (i := 608) (by decide +kernel), List.mem_of_getElem? (i := 609) (by decide +kernel)⟩
theorem lw_p21 : lw_okq (⟨"KeptInside$MaySets", "inFields", "(I)I"⟩, 6) := ⟨⟨by decide +kernel, by decide +kernel⟩, List.mem_of_getElem? (i := 150) (by decide +kernel), List.mem_of_getElem? (i := 616) (by decide +kernel), List.mem_of_getElem? (i := 617) (by decide +kernel)⟩
theorem lw_p22 : lw_okq (⟨"KeptInside$MaySets", "addToOpenPlace", "(I)V"⟩, 6) := ⟨⟨by decide +kernel, by decide +kernel⟩, List.mem_of_getElem? (i := 150) (by decide +kernel), List.mem_of_getElem? (i := 620) (by decide +kernel), List.mem_of_getElem? (i := 621) (by decide +kernel)⟩
theorem lw_p23 : lw_okq (⟨"KeptInside$Fates", "giveFates", "(III)V"⟩, 5) := ⟨⟨by decide +kernel, by decide +kernel⟩, List.mem_of_getElem? (i := 175) (by decide +kernel), List.mem_of_getElem? (i := 642) (by decide +kernel), List.mem_of_getElem? (i := 643) (by decide +kernel)⟩
theorem lw_p24 : lw_okq (⟨"KeptInside$Fates", "allKept", "()I"⟩, 5) := ⟨⟨by decide +kernel, by decide +kernel⟩, List.mem_of_getElem? (i := 175) (by decide +kernel), List.mem_of_getElem? (i := 654) (by decide +kernel), List.mem_of_getElem? (i := 655) (by decide +kernel)⟩
theorem lw_p25 : lw_okq (⟨"KeptInside$Fates", "idleAmong", "(II)I"⟩, 5) := ⟨⟨by decide +kernel, by decide +kernel⟩, List.mem_of_getElem? (i := 175) (by decide +kernel), List.mem_of_getElem? (i := 658) (by decide +kernel), List.mem_of_getElem? (i := 659) (by decide +kernel)⟩
theorem lw_p26 : lw_okq (⟨"KeptInside", "ofMethod", "(II)I"⟩, 14) := ⟨⟨by decide +kernel, by decide +kernel⟩, List.mem_of_getElem? (i := 20) (by decide +kernel), List.mem_of_getElem? (i := 665) (by decide +kernel), List.mem_of_getElem? (i := 666) (by decide +kernel)⟩
theorem lw_p27 : lw_okq (⟨"KeptInside", "ofLine", "(III)I"⟩, 14) := ⟨⟨by decide +kernel, by decide +kernel⟩, List.mem_of_getElem? (i := 20) (by decide +kernel), List.mem_of_getElem? (i := 692) (by decide +kernel), List.mem_of_getElem? (i := 693) (by decide +kernel)⟩
theorem lw_p28 : lw_okq (⟨"KeptInside", "ofSite", "(II)I"⟩, 14) := ⟨⟨by decide +kernel, by decide +kernel⟩, List.mem_of_getElem? (i := 20) (by decide +kernel), List.mem_of_getElem? (i := 710) (by decide +kernel), List.mem_of_getElem? (i := 711) (by decide +kernel)⟩
theorem lw_p29 : lw_okq (⟨"KeptInside", "findRun", "()V"⟩, 14) := ⟨⟨by decide +kernel, by decide +kernel⟩, List.mem_of_getElem? (i := 20) (by decide +kernel), List.mem_of_getElem? (i := 754) (by decide +kernel), List.mem_of_getElem? (i := 755) (by decide +kernel)⟩
theorem lw_p30 : lw_okq (⟨"KeptInside$Trial", "callMethod", "(II)I"⟩, 18) := ⟨⟨by decide +kernel, by decide +kernel⟩, List.mem_of_getElem? (i := 197) (by decide +kernel), List.mem_of_getElem? (i := 764) (by decide +kernel), List.mem_of_getElem? (i := 765) (by decide +kernel)⟩
theorem lw_p31 : lw_okq (⟨"KeptInside$Trial", "setName", "(III)V"⟩, 18) := ⟨⟨by decide +kernel, by decide +kernel⟩, List.mem_of_getElem? (i := 197) (by decide +kernel), List.mem_of_getElem? (i := 768) (by decide +kernel), List.mem_of_getElem? (i := 769) (by decide +kernel)⟩
def lw_privs_2 : List (MethodName × Nat) := [(⟨"KeptInside$Methods", "code", "(II)I"⟩, 3), (⟨"KeptInside$Sites", "add", "(II)V"⟩, 4), (⟨"KeptInside$MaySets", "addByLine", "(II)V"⟩, 6), (⟨"KeptInside$MaySets", "addToName", "(III)V"⟩, 6), (⟨"KeptInside$MaySets", "addToFields", "(II)V"⟩, 6), (⟨"KeptInside$MaySets", "inFields", "(I)I"⟩, 6), (⟨"KeptInside$MaySets", "addToOpenPlace", "(I)V"⟩, 6), (⟨"KeptInside$Fates", "giveFates", "(III)V"⟩, 5), (⟨"KeptInside$Fates", "allKept", "()I"⟩, 5), (⟨"KeptInside$Fates", "idleAmong", "(II)I"⟩, 5), (⟨"KeptInside", "ofMethod", "(II)I"⟩, 14), (⟨"KeptInside", "ofLine", "(III)I"⟩, 14), (⟨"KeptInside", "ofSite", "(II)I"⟩, 14), (⟨"KeptInside", "findRun", "()V"⟩, 14), (⟨"KeptInside$Trial", "callMethod", "(II)I"⟩, 18), (⟨"KeptInside$Trial", "setName", "(III)V"⟩, 18)]
theorem lw_r2 : ∀ q ∈ lw_privs_2, lw_okq q := List.forall_mem_cons.mpr ⟨lw_p16, List.forall_mem_cons.mpr ⟨lw_p17, List.forall_mem_cons.mpr ⟨lw_p18, List.forall_mem_cons.mpr ⟨lw_p19, List.forall_mem_cons.mpr ⟨lw_p20, List.forall_mem_cons.mpr ⟨lw_p21, List.forall_mem_cons.mpr ⟨lw_p22, List.forall_mem_cons.mpr ⟨lw_p23, List.forall_mem_cons.mpr ⟨lw_p24, List.forall_mem_cons.mpr ⟨lw_p25, List.forall_mem_cons.mpr ⟨lw_p26, List.forall_mem_cons.mpr ⟨lw_p27, List.forall_mem_cons.mpr ⟨lw_p28, List.forall_mem_cons.mpr ⟨lw_p29, List.forall_mem_cons.mpr ⟨lw_p30, List.forall_mem_cons.mpr ⟨lw_p31, fun _ h => absurd h List.not_mem_nil⟩⟩⟩⟩⟩⟩⟩⟩⟩⟩⟩⟩⟩⟩⟩⟩
theorem lw_p32 : lw_okq (⟨"KeptInside$Trial", "doLine", "(III)V"⟩, 18) := ⟨⟨by decide +kernel, by decide +kernel⟩, List.mem_of_getElem? (i := 197) (by decide +kernel), List.mem_of_getElem? (i := 774) (by decide +kernel), List.mem_of_getElem? (i := 775) (by decide +kernel)⟩
theorem lw_p33 : lw_okq (⟨"KeptInside$Trial", "inName", "(II)I"⟩, 18) := ⟨⟨by decide +kernel, by decide +kernel⟩, List.mem_of_getElem? (i := 197) (by decide +kernel), List.mem_of_getElem? (i := 779) (by decide +kernel), List.mem_of_getElem? (i := 780) (by decide +kernel)⟩
theorem lw_p34 : lw_okq (⟨"KeptInside$Trial", "newThing", "(II)I"⟩, 18) := ⟨⟨by decide +kernel, by decide +kernel⟩, List.mem_of_getElem? (i := 197) (by decide +kernel), List.mem_of_getElem? (i := 786) (by decide +kernel), List.mem_of_getElem? (i := 787) (by decide +kernel)⟩
theorem lw_p35 : lw_okq (⟨"KeptInside$Trial", "makeMoreRoom", "()V"⟩, 18) := ⟨⟨by decide +kernel, by decide +kernel⟩, List.mem_of_getElem? (i := 197) (by decide +kernel), List.mem_of_getElem? (i := 790) (by decide +kernel), List.mem_of_getElem? (i := 791) (by decide +kernel)⟩
theorem lw_p36 : lw_okq (⟨"KeptInside$Trial", "putIntoField", "(II)V"⟩, 18) := ⟨⟨by decide +kernel, by decide +kernel⟩, List.mem_of_getElem? (i := 197) (by decide +kernel), List.mem_of_getElem? (i := 808) (by decide +kernel), List.mem_of_getElem? (i := 809) (by decide +kernel)⟩
theorem lw_p37 : lw_okq (⟨"KeptInside$Trial", "isThing", "(I)Z"⟩, 18) := ⟨⟨by decide +kernel, by decide +kernel⟩, List.mem_of_getElem? (i := 197) (by decide +kernel), List.mem_of_getElem? (i := 812) (by decide +kernel), List.mem_of_getElem? (i := 813) (by decide +kernel)⟩
theorem lw_p38 : lw_okq (⟨"KeptInside$Trial", "takeFromField", "(I)I"⟩, 18) := ⟨⟨by decide +kernel, by decide +kernel⟩, List.mem_of_getElem? (i := 197) (by decide +kernel), List.mem_of_getElem? (i := 816) (by decide +kernel), List.mem_of_getElem? (i := 817) (by decide +kernel)⟩
theorem lw_p39 : lw_okq (⟨"KeptInside$Trial", "lock", "(II)V"⟩, 18) := ⟨⟨by decide +kernel, by decide +kernel⟩, List.mem_of_getElem? (i := 197) (by decide +kernel), List.mem_of_getElem? (i := 821) (by decide +kernel), List.mem_of_getElem? (i := 822) (by decide +kernel)⟩
theorem lw_p40 : lw_okq (⟨"KeptInside$Trial", "callFrom", "(III)V"⟩, 18) := ⟨⟨by decide +kernel, by decide +kernel⟩, List.mem_of_getElem? (i := 197) (by decide +kernel), List.mem_of_getElem? (i := 825) (by decide +kernel), List.mem_of_getElem? (i := 826) (by decide +kernel)⟩
theorem lw_p41 : lw_okq (⟨"KeptInside$Trial", "findLeaks", "(IIII)V"⟩, 18) := ⟨⟨by decide +kernel, by decide +kernel⟩, List.mem_of_getElem? (i := 197) (by decide +kernel), List.mem_of_getElem? (i := 830) (by decide +kernel), List.mem_of_getElem? (i := 831) (by decide +kernel)⟩
theorem lw_p42 : lw_okq (⟨"KeptInside$Trial", "followFrom", "(III)I"⟩, 18) := ⟨⟨by decide +kernel, by decide +kernel⟩, List.mem_of_getElem? (i := 197) (by decide +kernel), List.mem_of_getElem? (i := 835) (by decide +kernel), List.mem_of_getElem? (i := 836) (by decide +kernel)⟩
theorem lw_p43 : lw_okq (⟨"KeptInside", "ofRun", "(I)I"⟩, 14) := ⟨⟨by decide +kernel, by decide +kernel⟩, List.mem_of_getElem? (i := 20) (by decide +kernel), List.mem_of_getElem? (i := 839) (by decide +kernel), List.mem_of_getElem? (i := 840) (by decide +kernel)⟩
theorem lw_p44 : lw_okq (⟨"KeptInside", "ofSiteRun", "(II)I"⟩, 14) := ⟨⟨by decide +kernel, by decide +kernel⟩, List.mem_of_getElem? (i := 20) (by decide +kernel), List.mem_of_getElem? (i := 871) (by decide +kernel), List.mem_of_getElem? (i := 872) (by decide +kernel)⟩
theorem lw_p45 : lw_okq (⟨"KeptInside", "refusedAsNo", "()I"⟩, 14) := ⟨⟨by decide +kernel, by decide +kernel⟩, List.mem_of_getElem? (i := 20) (by decide +kernel), List.mem_of_getElem? (i := 903) (by decide +kernel), List.mem_of_getElem? (i := 904) (by decide +kernel)⟩
theorem lw_p46 : lw_okq (⟨"KeptInside", "ofAll", "(I)I"⟩, 14) := ⟨⟨by decide +kernel, by decide +kernel⟩, List.mem_of_getElem? (i := 20) (by decide +kernel), List.mem_of_getElem? (i := 915) (by decide +kernel), List.mem_of_getElem? (i := 916) (by decide +kernel)⟩
theorem lw_p47 : lw_okq (⟨"KeptInside", "digestWithMethod", "(JI)J"⟩, 14) := ⟨⟨by decide +kernel, by decide +kernel⟩, List.mem_of_getElem? (i := 20) (by decide +kernel), List.mem_of_getElem? (i := 925) (by decide +kernel), List.mem_of_getElem? (i := 926) (by decide +kernel)⟩
def lw_privs_3 : List (MethodName × Nat) := [(⟨"KeptInside$Trial", "doLine", "(III)V"⟩, 18), (⟨"KeptInside$Trial", "inName", "(II)I"⟩, 18), (⟨"KeptInside$Trial", "newThing", "(II)I"⟩, 18), (⟨"KeptInside$Trial", "makeMoreRoom", "()V"⟩, 18), (⟨"KeptInside$Trial", "putIntoField", "(II)V"⟩, 18), (⟨"KeptInside$Trial", "isThing", "(I)Z"⟩, 18), (⟨"KeptInside$Trial", "takeFromField", "(I)I"⟩, 18), (⟨"KeptInside$Trial", "lock", "(II)V"⟩, 18), (⟨"KeptInside$Trial", "callFrom", "(III)V"⟩, 18), (⟨"KeptInside$Trial", "findLeaks", "(IIII)V"⟩, 18), (⟨"KeptInside$Trial", "followFrom", "(III)I"⟩, 18), (⟨"KeptInside", "ofRun", "(I)I"⟩, 14), (⟨"KeptInside", "ofSiteRun", "(II)I"⟩, 14), (⟨"KeptInside", "refusedAsNo", "()I"⟩, 14), (⟨"KeptInside", "ofAll", "(I)I"⟩, 14), (⟨"KeptInside", "digestWithMethod", "(JI)J"⟩, 14)]
theorem lw_r3 : ∀ q ∈ lw_privs_3, lw_okq q := List.forall_mem_cons.mpr ⟨lw_p32, List.forall_mem_cons.mpr ⟨lw_p33, List.forall_mem_cons.mpr ⟨lw_p34, List.forall_mem_cons.mpr ⟨lw_p35, List.forall_mem_cons.mpr ⟨lw_p36, List.forall_mem_cons.mpr ⟨lw_p37, List.forall_mem_cons.mpr ⟨lw_p38, List.forall_mem_cons.mpr ⟨lw_p39, List.forall_mem_cons.mpr ⟨lw_p40, List.forall_mem_cons.mpr ⟨lw_p41, List.forall_mem_cons.mpr ⟨lw_p42, List.forall_mem_cons.mpr ⟨lw_p43, List.forall_mem_cons.mpr ⟨lw_p44, List.forall_mem_cons.mpr ⟨lw_p45, List.forall_mem_cons.mpr ⟨lw_p46, List.forall_mem_cons.mpr ⟨lw_p47, fun _ h => absurd h List.not_mem_nil⟩⟩⟩⟩⟩⟩⟩⟩⟩⟩⟩⟩⟩⟩⟩⟩
theorem lw_p48 : lw_okq (⟨"KeptInside", "digestWithSite", "(JI)J"⟩, 14) := ⟨⟨by decide +kernel, by decide +kernel⟩, List.mem_of_getElem? (i := 20) (by decide +kernel), List.mem_of_getElem? (i := 929) (by decide +kernel), List.mem_of_getElem? (i := 930) (by decide +kernel)⟩
theorem lw_p49 : lw_okq (⟨"KeptInsideModel", "refuse", "(I)I"⟩, 45) := ⟨⟨by decide +kernel, by decide +kernel⟩, List.mem_of_getElem? (i := 933) (by decide +kernel), List.mem_of_getElem? (i := 1082) (by decide +kernel), List.mem_of_getElem? (i := 1083) (by decide +kernel)⟩
theorem lw_p50 : lw_okq (⟨"KeptInsideModel", "readText", "()I"⟩, 45) := ⟨⟨by decide +kernel, by decide +kernel⟩, List.mem_of_getElem? (i := 933) (by decide +kernel), List.mem_of_getElem? (i := 1094) (by decide +kernel), List.mem_of_getElem? (i := 1095) (by decide +kernel)⟩
theorem lw_p51 : lw_okq (⟨"KeptInsideModel", "next", "()V"⟩, 45) := ⟨⟨by decide +kernel, by decide +kernel⟩, List.mem_of_getElem? (i := 933) (by decide +kernel), List.mem_of_getElem? (i := 1098) (by decide +kernel), List.mem_of_getElem? (i := 1099) (by decide +kernel)⟩
theorem lw_p52 : lw_okq (⟨"KeptInsideModel", "isWordByte", "()Z"⟩, 45) := ⟨⟨by decide +kernel, by decide +kernel⟩, List.mem_of_getElem? (i := 933) (by decide +kernel), List.mem_of_getElem? (i := 1102) (by decide +kernel), List.mem_of_getElem? (i := 1103) (by decide +kernel)⟩
theorem lw_p53 : lw_okq (⟨"KeptInsideModel", "isWord", "(IIII)Z"⟩, 45) := ⟨⟨by decide +kernel, by decide +kernel⟩, List.mem_of_getElem? (i := 933) (by decide +kernel), List.mem_of_getElem? (i := 1106) (by decide +kernel), List.mem_of_getElem? (i := 1107) (by decide +kernel)⟩
theorem lw_p54 : lw_okq (⟨"KeptInsideModel", "readMethod", "()Z"⟩, 45) := ⟨⟨by decide +kernel, by decide +kernel⟩, List.mem_of_getElem? (i := 933) (by decide +kernel), List.mem_of_getElem? (i := 1110) (by decide +kernel), List.mem_of_getElem? (i := 1111) (by decide +kernel)⟩
theorem lw_p55 : lw_okq (⟨"KeptInsideModel", "readLine", "(I)Z"⟩, 45) := ⟨⟨by decide +kernel, by decide +kernel⟩, List.mem_of_getElem? (i := 933) (by decide +kernel), List.mem_of_getElem? (i := 1114) (by decide +kernel), List.mem_of_getElem? (i := 1115) (by decide +kernel)⟩
theorem lw_p56 : lw_okq (⟨"KeptInsideModel", "nextName", "()I"⟩, 45) := ⟨⟨by decide +kernel, by decide +kernel⟩, List.mem_of_getElem? (i := 933) (by decide +kernel), List.mem_of_getElem? (i := 1121) (by decide +kernel), List.mem_of_getElem? (i := 1122) (by decide +kernel)⟩
theorem lw_p57 : lw_okq (⟨"KeptInsideModel", "isNext", "(I)Z"⟩, 45) := ⟨⟨by decide +kernel, by decide +kernel⟩, List.mem_of_getElem? (i := 933) (by decide +kernel), List.mem_of_getElem? (i := 1125) (by decide +kernel), List.mem_of_getElem? (i := 1126) (by decide +kernel)⟩
theorem lw_p58 : lw_okq (⟨"KeptInsideModel", "readRight", "(I)Z"⟩, 45) := ⟨⟨by decide +kernel, by decide +kernel⟩, List.mem_of_getElem? (i := 933) (by decide +kernel), List.mem_of_getElem? (i := 1129) (by decide +kernel), List.mem_of_getElem? (i := 1130) (by decide +kernel)⟩
theorem lw_p59 : lw_okq (⟨"KeptInsideModel", "note", "()V"⟩, 45) := ⟨⟨by decide +kernel, by decide +kernel⟩, List.mem_of_getElem? (i := 933) (by decide +kernel), List.mem_of_getElem? (i := 1133) (by decide +kernel), List.mem_of_getElem? (i := 1134) (by decide +kernel)⟩
theorem lw_p60 : lw_okq (⟨"KeptInsideModel", "isLine", "(II)Z"⟩, 45) := ⟨⟨by decide +kernel, by decide +kernel⟩, List.mem_of_getElem? (i := 933) (by decide +kernel), List.mem_of_getElem? (i := 1144) (by decide +kernel), List.mem_of_getElem? (i := 1145) (by decide +kernel)⟩
theorem lw_p61 : lw_okq (⟨"KeptInsideModel", "isMethod", "(I)Z"⟩, 45) := ⟨⟨by decide +kernel, by decide +kernel⟩, List.mem_of_getElem? (i := 933) (by decide +kernel), List.mem_of_getElem? (i := 1148) (by decide +kernel), List.mem_of_getElem? (i := 1149) (by decide +kernel)⟩
theorem lw_p62 : lw_okq (⟨"KeptInsideModel", "linesOf", "(I)I"⟩, 45) := ⟨⟨by decide +kernel, by decide +kernel⟩, List.mem_of_getElem? (i := 933) (by decide +kernel), List.mem_of_getElem? (i := 1152) (by decide +kernel), List.mem_of_getElem? (i := 1153) (by decide +kernel)⟩
theorem lw_p63 : lw_okq (⟨"KeptInsideModel", "findMays", "()V"⟩, 45) := ⟨⟨by decide +kernel, by decide +kernel⟩, List.mem_of_getElem? (i := 933) (by decide +kernel), List.mem_of_getElem? (i := 1164) (by decide +kernel), List.mem_of_getElem? (i := 1165) (by decide +kernel)⟩
def lw_privs_4 : List (MethodName × Nat) := [(⟨"KeptInside", "digestWithSite", "(JI)J"⟩, 14), (⟨"KeptInsideModel", "refuse", "(I)I"⟩, 45), (⟨"KeptInsideModel", "readText", "()I"⟩, 45), (⟨"KeptInsideModel", "next", "()V"⟩, 45), (⟨"KeptInsideModel", "isWordByte", "()Z"⟩, 45), (⟨"KeptInsideModel", "isWord", "(IIII)Z"⟩, 45), (⟨"KeptInsideModel", "readMethod", "()Z"⟩, 45), (⟨"KeptInsideModel", "readLine", "(I)Z"⟩, 45), (⟨"KeptInsideModel", "nextName", "()I"⟩, 45), (⟨"KeptInsideModel", "isNext", "(I)Z"⟩, 45), (⟨"KeptInsideModel", "readRight", "(I)Z"⟩, 45), (⟨"KeptInsideModel", "note", "()V"⟩, 45), (⟨"KeptInsideModel", "isLine", "(II)Z"⟩, 45), (⟨"KeptInsideModel", "isMethod", "(I)Z"⟩, 45), (⟨"KeptInsideModel", "linesOf", "(I)I"⟩, 45), (⟨"KeptInsideModel", "findMays", "()V"⟩, 45)]
theorem lw_r4 : ∀ q ∈ lw_privs_4, lw_okq q := List.forall_mem_cons.mpr ⟨lw_p48, List.forall_mem_cons.mpr ⟨lw_p49, List.forall_mem_cons.mpr ⟨lw_p50, List.forall_mem_cons.mpr ⟨lw_p51, List.forall_mem_cons.mpr ⟨lw_p52, List.forall_mem_cons.mpr ⟨lw_p53, List.forall_mem_cons.mpr ⟨lw_p54, List.forall_mem_cons.mpr ⟨lw_p55, List.forall_mem_cons.mpr ⟨lw_p56, List.forall_mem_cons.mpr ⟨lw_p57, List.forall_mem_cons.mpr ⟨lw_p58, List.forall_mem_cons.mpr ⟨lw_p59, List.forall_mem_cons.mpr ⟨lw_p60, List.forall_mem_cons.mpr ⟨lw_p61, List.forall_mem_cons.mpr ⟨lw_p62, List.forall_mem_cons.mpr ⟨lw_p63, fun _ h => absurd h List.not_mem_nil⟩⟩⟩⟩⟩⟩⟩⟩⟩⟩⟩⟩⟩⟩⟩⟩
theorem lw_p64 : lw_okq (⟨"KeptInsideModel", "findSites", "()V"⟩, 45) := ⟨⟨by decide +kernel, by decide +kernel⟩, List.mem_of_getElem? (i := 933) (by decide +kernel), List.mem_of_getElem? (i := 1168) (by decide +kernel), List.mem_of_getElem? (i := 1169) (by decide +kernel)⟩
theorem lw_p65 : lw_okq (⟨"KeptInsideModel", "lineAt", "(III)I"⟩, 45) := ⟨⟨by decide +kernel, by decide +kernel⟩, List.mem_of_getElem? (i := 933) (by decide +kernel), List.mem_of_getElem? (i := 1172) (by decide +kernel), List.mem_of_getElem? (i := 1173) (by decide +kernel)⟩
theorem lw_p66 : lw_okq (⟨"KeptInsideModel", "goThrough", "(II)V"⟩, 45) := ⟨⟨by decide +kernel, by decide +kernel⟩, List.mem_of_getElem? (i := 933) (by decide +kernel), List.mem_of_getElem? (i := 1176) (by decide +kernel), List.mem_of_getElem? (i := 1177) (by decide +kernel)⟩
theorem lw_p67 : lw_okq (⟨"KeptInsideModel", "add", "(II)V"⟩, 45) := ⟨⟨by decide +kernel, by decide +kernel⟩, List.mem_of_getElem? (i := 933) (by decide +kernel), List.mem_of_getElem? (i := 1180) (by decide +kernel), List.mem_of_getElem? (i := 1181) (by decide +kernel)⟩
theorem lw_p68 : lw_okq (⟨"KeptInsideModel", "fields", "(I)I"⟩, 45) := ⟨⟨by decide +kernel, by decide +kernel⟩, List.mem_of_getElem? (i := 933) (by decide +kernel), List.mem_of_getElem? (i := 1187) (by decide +kernel), List.mem_of_getElem? (i := 1188) (by decide +kernel)⟩
theorem lw_p69 : lw_okq (⟨"KeptInsideModel", "ofMethod", "(II)I"⟩, 45) := ⟨⟨by decide +kernel, by decide +kernel⟩, List.mem_of_getElem? (i := 933) (by decide +kernel), List.mem_of_getElem? (i := 1191) (by decide +kernel), List.mem_of_getElem? (i := 1192) (by decide +kernel)⟩
theorem lw_p70 : lw_okq (⟨"KeptInsideModel", "idleOf", "(I)I"⟩, 45) := ⟨⟨by decide +kernel, by decide +kernel⟩, List.mem_of_getElem? (i := 933) (by decide +kernel), List.mem_of_getElem? (i := 1195) (by decide +kernel), List.mem_of_getElem? (i := 1196) (by decide +kernel)⟩
theorem lw_p71 : lw_okq (⟨"KeptInsideModel", "fated", "(I)I"⟩, 45) := ⟨⟨by decide +kernel, by decide +kernel⟩, List.mem_of_getElem? (i := 933) (by decide +kernel), List.mem_of_getElem? (i := 1199) (by decide +kernel), List.mem_of_getElem? (i := 1200) (by decide +kernel)⟩
theorem lw_p72 : lw_okq (⟨"KeptInsideModel", "fateOf", "(I)I"⟩, 45) := ⟨⟨by decide +kernel, by decide +kernel⟩, List.mem_of_getElem? (i := 933) (by decide +kernel), List.mem_of_getElem? (i := 1203) (by decide +kernel), List.mem_of_getElem? (i := 1204) (by decide +kernel)⟩
theorem lw_p73 : lw_okq (⟨"KeptInsideModel", "reachedFrom", "(I)I"⟩, 45) := ⟨⟨by decide +kernel, by decide +kernel⟩, List.mem_of_getElem? (i := 933) (by decide +kernel), List.mem_of_getElem? (i := 1207) (by decide +kernel), List.mem_of_getElem? (i := 1208) (by decide +kernel)⟩
theorem lw_p74 : lw_okq (⟨"KeptInsideModel", "ofLine", "(III)I"⟩, 45) := ⟨⟨by decide +kernel, by decide +kernel⟩, List.mem_of_getElem? (i := 933) (by decide +kernel), List.mem_of_getElem? (i := 1215) (by decide +kernel), List.mem_of_getElem? (i := 1216) (by decide +kernel)⟩
theorem lw_p75 : lw_okq (⟨"KeptInsideModel", "ofSite", "(II)I"⟩, 45) := ⟨⟨by decide +kernel, by decide +kernel⟩, List.mem_of_getElem? (i := 933) (by decide +kernel), List.mem_of_getElem? (i := 1223) (by decide +kernel), List.mem_of_getElem? (i := 1224) (by decide +kernel)⟩
theorem lw_p76 : lw_okq (⟨"KeptInsideModel", "goRun", "()V"⟩, 45) := ⟨⟨by decide +kernel, by decide +kernel⟩, List.mem_of_getElem? (i := 933) (by decide +kernel), List.mem_of_getElem? (i := 1250) (by decide +kernel), List.mem_of_getElem? (i := 1251) (by decide +kernel)⟩
theorem lw_p77 : lw_okq (⟨"KeptInsideModel", "call", "(II)V"⟩, 45) := ⟨⟨by decide +kernel, by decide +kernel⟩, List.mem_of_getElem? (i := 933) (by decide +kernel), List.mem_of_getElem? (i := 1254) (by decide +kernel), List.mem_of_getElem? (i := 1255) (by decide +kernel)⟩
theorem lw_p78 : lw_okq (⟨"KeptInsideModel", "step", "()V"⟩, 45) := ⟨⟨by decide +kernel, by decide +kernel⟩, List.mem_of_getElem? (i := 933) (by decide +kernel), List.mem_of_getElem? (i := 1258) (by decide +kernel), List.mem_of_getElem? (i := 1259) (by decide +kernel)⟩
theorem lw_p79 : lw_okq (⟨"KeptInsideModel", "end", "()V"⟩, 45) := ⟨⟨by decide +kernel, by decide +kernel⟩, List.mem_of_getElem? (i := 933) (by decide +kernel), List.mem_of_getElem? (i := 1262) (by decide +kernel), List.mem_of_getElem? (i := 1263) (by decide +kernel)⟩
def lw_privs_5 : List (MethodName × Nat) := [(⟨"KeptInsideModel", "findSites", "()V"⟩, 45), (⟨"KeptInsideModel", "lineAt", "(III)I"⟩, 45), (⟨"KeptInsideModel", "goThrough", "(II)V"⟩, 45), (⟨"KeptInsideModel", "add", "(II)V"⟩, 45), (⟨"KeptInsideModel", "fields", "(I)I"⟩, 45), (⟨"KeptInsideModel", "ofMethod", "(II)I"⟩, 45), (⟨"KeptInsideModel", "idleOf", "(I)I"⟩, 45), (⟨"KeptInsideModel", "fated", "(I)I"⟩, 45), (⟨"KeptInsideModel", "fateOf", "(I)I"⟩, 45), (⟨"KeptInsideModel", "reachedFrom", "(I)I"⟩, 45), (⟨"KeptInsideModel", "ofLine", "(III)I"⟩, 45), (⟨"KeptInsideModel", "ofSite", "(II)I"⟩, 45), (⟨"KeptInsideModel", "goRun", "()V"⟩, 45), (⟨"KeptInsideModel", "call", "(II)V"⟩, 45), (⟨"KeptInsideModel", "step", "()V"⟩, 45), (⟨"KeptInsideModel", "end", "()V"⟩, 45)]
theorem lw_r5 : ∀ q ∈ lw_privs_5, lw_okq q := List.forall_mem_cons.mpr ⟨lw_p64, List.forall_mem_cons.mpr ⟨lw_p65, List.forall_mem_cons.mpr ⟨lw_p66, List.forall_mem_cons.mpr ⟨lw_p67, List.forall_mem_cons.mpr ⟨lw_p68, List.forall_mem_cons.mpr ⟨lw_p69, List.forall_mem_cons.mpr ⟨lw_p70, List.forall_mem_cons.mpr ⟨lw_p71, List.forall_mem_cons.mpr ⟨lw_p72, List.forall_mem_cons.mpr ⟨lw_p73, List.forall_mem_cons.mpr ⟨lw_p74, List.forall_mem_cons.mpr ⟨lw_p75, List.forall_mem_cons.mpr ⟨lw_p76, List.forall_mem_cons.mpr ⟨lw_p77, List.forall_mem_cons.mpr ⟨lw_p78, List.forall_mem_cons.mpr ⟨lw_p79, fun _ h => absurd h List.not_mem_nil⟩⟩⟩⟩⟩⟩⟩⟩⟩⟩⟩⟩⟩⟩⟩⟩
theorem lw_p80 : lw_okq (⟨"KeptInsideModel", "follow", "(II)V"⟩, 45) := ⟨⟨by decide +kernel, by decide +kernel⟩, List.mem_of_getElem? (i := 933) (by decide +kernel), List.mem_of_getElem? (i := 1266) (by decide +kernel), List.mem_of_getElem? (i := 1267) (by decide +kernel)⟩
theorem lw_p81 : lw_okq (⟨"KeptInsideModel", "make", "(I)I"⟩, 45) := ⟨⟨by decide +kernel, by decide +kernel⟩, List.mem_of_getElem? (i := 933) (by decide +kernel), List.mem_of_getElem? (i := 1270) (by decide +kernel), List.mem_of_getElem? (i := 1271) (by decide +kernel)⟩
theorem lw_p82 : lw_okq (⟨"KeptInsideModel", "lock", "(III)V"⟩, 45) := ⟨⟨by decide +kernel, by decide +kernel⟩, List.mem_of_getElem? (i := 933) (by decide +kernel), List.mem_of_getElem? (i := 1274) (by decide +kernel), List.mem_of_getElem? (i := 1275) (by decide +kernel)⟩
theorem lw_p83 : lw_okq (⟨"KeptInsideModel", "ofRun", "(I)I"⟩, 45) := ⟨⟨by decide +kernel, by decide +kernel⟩, List.mem_of_getElem? (i := 933) (by decide +kernel), List.mem_of_getElem? (i := 1278) (by decide +kernel), List.mem_of_getElem? (i := 1279) (by decide +kernel)⟩
theorem lw_p84 : lw_okq (⟨"KeptInsideModel", "ranOf", "(II)I"⟩, 45) := ⟨⟨by decide +kernel, by decide +kernel⟩, List.mem_of_getElem? (i := 933) (by decide +kernel), List.mem_of_getElem? (i := 1286) (by decide +kernel), List.mem_of_getElem? (i := 1287) (by decide +kernel)⟩
theorem lw_p85 : lw_okq (⟨"KeptInsideModel", "heldNow", "()I"⟩, 45) := ⟨⟨by decide +kernel, by decide +kernel⟩, List.mem_of_getElem? (i := 933) (by decide +kernel), List.mem_of_getElem? (i := 1294) (by decide +kernel), List.mem_of_getElem? (i := 1295) (by decide +kernel)⟩
theorem lw_p86 : lw_okq (⟨"KeptInsideModel", "toldOf", "(I)I"⟩, 45) := ⟨⟨by decide +kernel, by decide +kernel⟩, List.mem_of_getElem? (i := 933) (by decide +kernel), List.mem_of_getElem? (i := 1306) (by decide +kernel), List.mem_of_getElem? (i := 1307) (by decide +kernel)⟩
def lw_privs_6 : List (MethodName × Nat) := [(⟨"KeptInsideModel", "follow", "(II)V"⟩, 45), (⟨"KeptInsideModel", "make", "(I)I"⟩, 45), (⟨"KeptInsideModel", "lock", "(III)V"⟩, 45), (⟨"KeptInsideModel", "ofRun", "(I)I"⟩, 45), (⟨"KeptInsideModel", "ranOf", "(II)I"⟩, 45), (⟨"KeptInsideModel", "heldNow", "()I"⟩, 45), (⟨"KeptInsideModel", "toldOf", "(I)I"⟩, 45)]
theorem lw_r6 : ∀ q ∈ lw_privs_6, lw_okq q := List.forall_mem_cons.mpr ⟨lw_p80, List.forall_mem_cons.mpr ⟨lw_p81, List.forall_mem_cons.mpr ⟨lw_p82, List.forall_mem_cons.mpr ⟨lw_p83, List.forall_mem_cons.mpr ⟨lw_p84, List.forall_mem_cons.mpr ⟨lw_p85, List.forall_mem_cons.mpr ⟨lw_p86, fun _ h => absurd h List.not_mem_nil⟩⟩⟩⟩⟩⟩⟩
def lw_privs : List (MethodName × Nat) := lw_privs_1 ++ (lw_privs_2 ++ (lw_privs_3 ++ (lw_privs_4 ++ (lw_privs_5 ++ (lw_privs_6)))))
def lw_tbl : List Cond := k2_sels lw_privs ++ tables_1
theorem lw_privs_ok : ∀ q ∈ lw_privs, lw_okq q := by
  show ∀ q ∈ lw_privs_1 ++ (lw_privs_2 ++ (lw_privs_3 ++ (lw_privs_4 ++ (lw_privs_5 ++ (lw_privs_6))))), lw_okq q
  exact List.forall_mem_append.mpr ⟨lw_r1, List.forall_mem_append.mpr ⟨lw_r2, List.forall_mem_append.mpr ⟨lw_r3, List.forall_mem_append.mpr ⟨lw_r4, List.forall_mem_append.mpr ⟨lw_r5, lw_r6⟩⟩⟩⟩⟩

/-- the good words of the tables -/
def gtbl : List Cond := lw_tbl.filter goodWord
theorem gw_of {i : Nat} {w : Cond} (h : lw_tbl[i]? = some w) (hg : goodWord w = true) : w ∈ gtbl := List.mem_filter.mpr ⟨List.mem_of_getElem? h, hg⟩
theorem gw_good : ∀ w ∈ gtbl, (w.onTables && w.keeps) = true ∨ ∃ ty, w = .arrayClass ty := fun _ h => good_of_word (List.mem_filter.mp h).2
theorem gw_in {args : Array Value} {s : State} (h : ∀ w ∈ lw_tbl, w.before args s = true) : ∀ w ∈ gtbl, w.before args s = true := fun w hw => h w (List.mem_filter.mp hw).1
abbrev RX0 : String := "KeptInside$Fates"
abbrev RX1 : String := "KeptInside$MaySets"
abbrev RX2 : String := "KeptInside$Methods"
abbrev RX3 : String := "KeptInside$Reader"
abbrev RX4 : String := "KeptInside$Sites"
abbrev RX5 : String := "KeptInside$States"
abbrev RX6 : String := "KeptInside$Text"
abbrev RX7 : String := "KeptInside$Tokens"
abbrev RX8 : String := "KeptInside$Trial"
abbrev RX9 : String := "KeptInside"
abbrev RX10 : String := "KeptInsideModel"
abbrev RJ0 : String := "java/lang/String"
abbrev RJ1 : String := "java/lang/StringLatin1"
abbrev RJ3 : String := "jdk/internal/util/Preconditions"
abbrev RJ7 : String := "java/util/Arrays"
abbrev RJ10 : String := "java/lang/System"
abbrev RL : String := "KeptInsideLaw"
def TX0 : u_T := fun k => match k with
  | 0 => ("KeptInside$Fates", "methods", "LKeptInside$Methods;", true)
  | 1 => ("KeptInside$Fates", "sites", "LKeptInside$Sites;", true)
  | 2 => ("KeptInside$Fates", "mays", "LKeptInside$MaySets;", true)
  | 3 => ("KeptInside$Fates", "ofSites", "[I", true)
  | _ => ("KeptInside$Fates", "idle", "[I", true)
def tyX0 : Nat → FieldType := fun k => match k with
  | 0 => (.object "KeptInside$Methods")
  | 1 => (.object "KeptInside$Sites")
  | 2 => (.object "KeptInside$MaySets")
  | 3 => (.array .int)
  | _ => (.array .int)
def TX1 : u_T := fun k => match k with
  | 0 => ("KeptInside$MaySets", "methods", "LKeptInside$Methods;", true)
  | 1 => ("KeptInside$MaySets", "sites", "LKeptInside$Sites;", true)
  | 2 => ("KeptInside$MaySets", "names", "[I", true)
  | 3 => ("KeptInside$MaySets", "fields", "[I", true)
  | 4 => ("KeptInside$MaySets", "openPlace", "I", false)
  | _ => ("KeptInside$MaySets", "grew", "Z", false)
def tyX1 : Nat → FieldType := fun k => match k with
  | 0 => (.object "KeptInside$Methods")
  | 1 => (.object "KeptInside$Sites")
  | 2 => (.array .int)
  | 3 => (.array .int)
  | 4 => .int
  | _ => .boolean
def TX2 : u_T := fun k => match k with
  | 0 => ("KeptInside$Methods", "count", "I", false)
  | 1 => ("KeptInside$Methods", "lines", "[I", true)
  | _ => ("KeptInside$Methods", "codes", "[I", true)
def tyX2 : Nat → FieldType := fun k => match k with
  | 0 => .int
  | 1 => (.array .int)
  | _ => (.array .int)
def TX3 : u_T := fun k => match k with
  | 0 => ("KeptInside$Reader", "text", "LKeptInside$Text;", true)
  | 1 => ("KeptInside$Reader", "methods", "LKeptInside$Methods;", true)
  | 2 => ("KeptInside$Reader", "tokens", "LKeptInside$Tokens;", true)
  | 3 => ("KeptInside$Reader", "fault", "I", false)
  | 4 => ("KeptInside$Reader", "firstCall", "[I", true)
  | 5 => ("KeptInside$Reader", "sort", "I", false)
  | 6 => ("KeptInside$Reader", "x", "I", false)
  | 7 => ("KeptInside$Reader", "y", "I", false)
  | _ => ("KeptInside$Reader", "callee", "I", false)
def tyX3 : Nat → FieldType := fun k => match k with
  | 0 => (.object "KeptInside$Text")
  | 1 => (.object "KeptInside$Methods")
  | 2 => (.object "KeptInside$Tokens")
  | 3 => .int
  | 4 => (.array .int)
  | 5 => .int
  | 6 => .int
  | 7 => .int
  | _ => .int
def TX4 : u_T := fun k => match k with
  | 0 => ("KeptInside$Sites", "count", "I", false)
  | 1 => ("KeptInside$Sites", "places", "[I", true)
  | 2 => ("KeptInside$Sites", "ofLines", "[I", true)
  | _ => ("KeptInside$Sites", "inMethods", "[I", true)
def tyX4 : Nat → FieldType := fun k => match k with
  | 0 => .int
  | 1 => (.array .int)
  | 2 => (.array .int)
  | _ => (.array .int)
def TX5 : u_T := fun k => match k with
  | 0 => ("KeptInside$States", "kept", "[LKeptInside$Methods;", true)
  | _ => ("KeptInside$States", "count", "I", false)
def tyX5 : Nat → FieldType := fun k => match k with
  | 0 => (.array (.object "KeptInside$Methods"))
  | _ => .int
def TX6 : u_T := fun k => match k with
  | 0 => ("KeptInside$Text", "bytes", "[B", true)
  | _ => ("KeptInside$Text", "length", "I", false)
def tyX6 : Nat → FieldType := fun k => match k with
  | 0 => (.array .byte)
  | _ => .int
def TX7 : u_T := fun k => match k with
  | 0 => ("KeptInside$Tokens", "kinds", "[I", true)
  | 1 => ("KeptInside$Tokens", "places", "[I", true)
  | 2 => ("KeptInside$Tokens", "count", "I", false)
  | 3 => ("KeptInside$Tokens", "next", "I", false)
  | _ => ("KeptInside$Tokens", "textLength", "I", false)
def tyX7 : Nat → FieldType := fun k => match k with
  | 0 => (.array .int)
  | 1 => (.array .int)
  | 2 => .int
  | 3 => .int
  | _ => .int
def TX8 : u_T := fun k => match k with
  | 0 => ("KeptInside$Trial", "methods", "LKeptInside$Methods;", true)
  | 1 => ("KeptInside$Trial", "sites", "LKeptInside$Sites;", true)
  | 2 => ("KeptInside$Trial", "fates", "LKeptInside$Fates;", true)
  | 3 => ("KeptInside$Trial", "names", "[I", true)
  | 4 => ("KeptInside$Trial", "openPlace", "I", false)
  | 5 => ("KeptInside$Trial", "siteOf", "[I", false)
  | 6 => ("KeptInside$Trial", "fieldOf", "[I", false)
  | 7 => ("KeptInside$Trial", "makerOf", "[I", false)
  | 8 => ("KeptInside$Trial", "seenBy", "[I", false)
  | 9 => ("KeptInside$Trial", "failed", "Z", false)
  | 10 => ("KeptInside$Trial", "made", "I", false)
  | 11 => ("KeptInside$Trial", "locks", "I", false)
  | 12 => ("KeptInside$Trial", "idleLocks", "I", false)
  | 13 => ("KeptInside$Trial", "calls", "I", false)
  | 14 => ("KeptInside$Trial", "leaks", "I", false)
  | 15 => ("KeptInside$Trial", "madeOf", "[I", true)
  | 16 => ("KeptInside$Trial", "leaksOf", "[I", true)
  | _ => ("KeptInside$Trial", "locksOf", "[I", true)
def tyX8 : Nat → FieldType := fun k => match k with
  | 0 => (.object "KeptInside$Methods")
  | 1 => (.object "KeptInside$Sites")
  | 2 => (.object "KeptInside$Fates")
  | 3 => (.array .int)
  | 4 => .int
  | 5 => (.array .int)
  | 6 => (.array .int)
  | 7 => (.array .int)
  | 8 => (.array .int)
  | 9 => .boolean
  | 10 => .int
  | 11 => .int
  | 12 => .int
  | 13 => .int
  | 14 => .int
  | 15 => (.array .int)
  | 16 => (.array .int)
  | _ => (.array .int)
def TX9 : u_T := fun k => match k with
  | 0 => ("KeptInside", "text", "LKeptInside$Text;", true)
  | 1 => ("KeptInside", "methods", "LKeptInside$Methods;", true)
  | 2 => ("KeptInside", "newMethods", "LKeptInside$Methods;", true)
  | 3 => ("KeptInside", "reader", "LKeptInside$Reader;", true)
  | 4 => ("KeptInside", "states", "LKeptInside$States;", true)
  | 5 => ("KeptInside", "sites", "LKeptInside$Sites;", true)
  | 6 => ("KeptInside", "mays", "LKeptInside$MaySets;", true)
  | 7 => ("KeptInside", "siteFates", "LKeptInside$Fates;", true)
  | 8 => ("KeptInside", "trial", "LKeptInside$Trial;", true)
  | 9 => ("KeptInside", "timesBad", "I", false)
  | 10 => ("KeptInside", "timesNo", "I", false)
  | 11 => ("KeptInside", "timesFull", "I", false)
  | 12 => ("KeptInside", "maysFound", "Z", false)
  | _ => ("KeptInside", "runFound", "Z", false)
def tyX9 : Nat → FieldType := fun k => match k with
  | 0 => (.object "KeptInside$Text")
  | 1 => (.object "KeptInside$Methods")
  | 2 => (.object "KeptInside$Methods")
  | 3 => (.object "KeptInside$Reader")
  | 4 => (.object "KeptInside$States")
  | 5 => (.object "KeptInside$Sites")
  | 6 => (.object "KeptInside$MaySets")
  | 7 => (.object "KeptInside$Fates")
  | 8 => (.object "KeptInside$Trial")
  | 9 => .int
  | 10 => .int
  | 11 => .int
  | 12 => .boolean
  | _ => .boolean
def TX10 : u_T := fun k => match k with
  | 0 => ("KeptInsideModel", "now", "[I", true)
  | 1 => ("KeptInsideModel", "read", "[I", true)
  | 2 => ("KeptInsideModel", "past", "[I", true)
  | 3 => ("KeptInsideModel", "states", "I", false)
  | 4 => ("KeptInsideModel", "refused", "[I", true)
  | 5 => ("KeptInsideModel", "text", "[I", true)
  | 6 => ("KeptInsideModel", "bytes", "I", false)
  | 7 => ("KeptInsideModel", "at", "I", false)
  | 8 => ("KeptInsideModel", "token", "I", false)
  | 9 => ("KeptInsideModel", "tokenAt", "I", false)
  | 10 => ("KeptInsideModel", "called", "[I", true)
  | 11 => ("KeptInsideModel", "calledAt", "[I", true)
  | 12 => ("KeptInsideModel", "calledMany", "I", false)
  | 13 => ("KeptInsideModel", "sort", "I", false)
  | 14 => ("KeptInsideModel", "left", "I", false)
  | 15 => ("KeptInsideModel", "right", "I", false)
  | 16 => ("KeptInsideModel", "callee", "I", false)
  | 17 => ("KeptInsideModel", "siteMethod", "[I", true)
  | 18 => ("KeptInsideModel", "siteLine", "[I", true)
  | 19 => ("KeptInsideModel", "siteAt", "[I", true)
  | 20 => ("KeptInsideModel", "sites", "I", false)
  | 21 => ("KeptInsideModel", "mays", "[I", true)
  | 22 => ("KeptInsideModel", "isMore", "Z", false)
  | 23 => ("KeptInsideModel", "thingSite", "[I", true)
  | 24 => ("KeptInsideModel", "thingField", "[I", true)
  | 25 => ("KeptInsideModel", "thingCall", "[I", true)
  | 26 => ("KeptInsideModel", "mark", "[I", true)
  | 27 => ("KeptInsideModel", "things", "I", false)
  | 28 => ("KeptInsideModel", "openThing", "I", false)
  | 29 => ("KeptInsideModel", "names", "[I", true)
  | 30 => ("KeptInsideModel", "frameMethod", "[I", true)
  | 31 => ("KeptInsideModel", "frameLine", "[I", true)
  | 32 => ("KeptInsideModel", "frameCall", "[I", true)
  | 33 => ("KeptInsideModel", "frameGiven", "[I", true)
  | 34 => ("KeptInsideModel", "frameFirst", "[I", true)
  | 35 => ("KeptInsideModel", "depth", "I", false)
  | 36 => ("KeptInsideModel", "fails", "Z", false)
  | 37 => ("KeptInsideModel", "locks", "I", false)
  | 38 => ("KeptInsideModel", "idleLocks", "I", false)
  | 39 => ("KeptInsideModel", "calls", "I", false)
  | 40 => ("KeptInsideModel", "leaks", "I", false)
  | 41 => ("KeptInsideModel", "idles", "[I", true)
  | 42 => ("KeptInsideModel", "made", "[I", true)
  | 43 => ("KeptInsideModel", "leaked", "[I", true)
  | _ => ("KeptInsideModel", "lockedOf", "[I", true)
def tyX10 : Nat → FieldType := fun k => match k with
  | 0 => (.array .int)
  | 1 => (.array .int)
  | 2 => (.array .int)
  | 3 => .int
  | 4 => (.array .int)
  | 5 => (.array .int)
  | 6 => .int
  | 7 => .int
  | 8 => .int
  | 9 => .int
  | 10 => (.array .int)
  | 11 => (.array .int)
  | 12 => .int
  | 13 => .int
  | 14 => .int
  | 15 => .int
  | 16 => .int
  | 17 => (.array .int)
  | 18 => (.array .int)
  | 19 => (.array .int)
  | 20 => .int
  | 21 => (.array .int)
  | 22 => .boolean
  | 23 => (.array .int)
  | 24 => (.array .int)
  | 25 => (.array .int)
  | 26 => (.array .int)
  | 27 => .int
  | 28 => .int
  | 29 => (.array .int)
  | 30 => (.array .int)
  | 31 => (.array .int)
  | 32 => (.array .int)
  | 33 => (.array .int)
  | 34 => (.array .int)
  | 35 => .int
  | 36 => .boolean
  | 37 => .int
  | 38 => .int
  | 39 => .int
  | 40 => .int
  | 41 => (.array .int)
  | 42 => (.array .int)
  | 43 => (.array .int)
  | _ => (.array .int)
abbrev vwC : List vw_C := [(RX0, TX0, 5), (RX1, TX1, 6), (RX2, TX2, 3), (RX3, TX3, 9), (RX4, TX4, 4), (RX5, TX5, 2), (RX6, TX6, 2), (RX7, TX7, 5), (RX8, TX8, 18), (RX9, TX9, 14), (RX10, TX10, 45)]
/-- which fields of a class are references -/
def fkT : List (List Bool) := [[true, true, true, true, true], [true, true, true, true, false, false], [false, true, true], [true, true, true, false, true, false, false, false, false], [false, true, true, true], [true, false], [true, false], [true, true, false, false, false], [true, true, true, true, false, true, true, true, true, false, false, false, false, false, false, true, true, true], [true, true, true, true, true, true, true, true, true, false, false, false, false, false], [true, true, true, false, true, true, false, false, false, false, true, true, false, false, false, false, false, true, true, true, false, true, false, true, true, true, true, false, false, true, true, true, true, true, true, false, false, false, false, false, false, true, true, true, true]]
theorem nmX0 : ∀ a, a < 5 → ∀ b, b < 5 → a ≠ b → (TX0 a).2.1 ≠ (TX0 b).2.1 := by decide +kernel
theorem tyX0_ok : ∀ k, k < 5 → parseFieldDescriptor (TX0 k).2.2.1 = some (tyX0 k) := by decide +kernel
theorem inX0 : ∀ w ∈ u_ws RX0 TX0 5, w ∈ gtbl := by
  have h : u_ws RX0 TX0 5 = [272, 274, 276, 278, 280].filterMap (fun i => lw_tbl[i]?) := by decide +kernel
  intro w hw
  have hg : (u_ws RX0 TX0 5).all goodWord = true := by decide +kernel
  have h1 := List.all_eq_true.mp hg w hw
  rw [h] at hw
  obtain ⟨i, -, hi⟩ := List.mem_filterMap.mp hw
  exact gw_of hi h1
theorem nmX1 : ∀ a, a < 6 → ∀ b, b < 6 → a ≠ b → (TX1 a).2.1 ≠ (TX1 b).2.1 := by decide +kernel
theorem tyX1_ok : ∀ k, k < 6 → parseFieldDescriptor (TX1 k).2.2.1 = some (tyX1 k) := by decide +kernel
theorem inX1 : ∀ w ∈ u_ws RX1 TX1 6, w ∈ gtbl := by
  have h : u_ws RX1 TX1 6 = [248, 250, 252, 254, 256, 258].filterMap (fun i => lw_tbl[i]?) := by decide +kernel
  intro w hw
  have hg : (u_ws RX1 TX1 6).all goodWord = true := by decide +kernel
  have h1 := List.all_eq_true.mp hg w hw
  rw [h] at hw
  obtain ⟨i, -, hi⟩ := List.mem_filterMap.mp hw
  exact gw_of hi h1
theorem nmX2 : ∀ a, a < 3 → ∀ b, b < 3 → a ≠ b → (TX2 a).2.1 ≠ (TX2 b).2.1 := by decide +kernel
theorem tyX2_ok : ∀ k, k < 3 → parseFieldDescriptor (TX2 k).2.2.1 = some (tyX2 k) := by decide +kernel
theorem inX2 : ∀ w ∈ u_ws RX2 TX2 3, w ∈ gtbl := by
  have h : u_ws RX2 TX2 3 = [137, 139, 141].filterMap (fun i => lw_tbl[i]?) := by decide +kernel
  intro w hw
  have hg : (u_ws RX2 TX2 3).all goodWord = true := by decide +kernel
  have h1 := List.all_eq_true.mp hg w hw
  rw [h] at hw
  obtain ⟨i, -, hi⟩ := List.mem_filterMap.mp hw
  exact gw_of hi h1
theorem nmX3 : ∀ a, a < 9 → ∀ b, b < 9 → a ≠ b → (TX3 a).2.1 ≠ (TX3 b).2.1 := by decide +kernel
theorem tyX3_ok : ∀ k, k < 9 → parseFieldDescriptor (TX3 k).2.2.1 = some (tyX3 k) := by decide +kernel
theorem inX3 : ∀ w ∈ u_ws RX3 TX3 9, w ∈ gtbl := by
  have h : u_ws RX3 TX3 9 = [182, 184, 186, 188, 190, 192, 194, 196, 198].filterMap (fun i => lw_tbl[i]?) := by decide +kernel
  intro w hw
  have hg : (u_ws RX3 TX3 9).all goodWord = true := by decide +kernel
  have h1 := List.all_eq_true.mp hg w hw
  rw [h] at hw
  obtain ⟨i, -, hi⟩ := List.mem_filterMap.mp hw
  exact gw_of hi h1
theorem nmX4 : ∀ a, a < 4 → ∀ b, b < 4 → a ≠ b → (TX4 a).2.1 ≠ (TX4 b).2.1 := by decide +kernel
theorem tyX4_ok : ∀ k, k < 4 → parseFieldDescriptor (TX4 k).2.2.1 = some (tyX4 k) := by decide +kernel
theorem inX4 : ∀ w ∈ u_ws RX4 TX4 4, w ∈ gtbl := by
  have h : u_ws RX4 TX4 4 = [227, 229, 231, 233].filterMap (fun i => lw_tbl[i]?) := by decide +kernel
  intro w hw
  have hg : (u_ws RX4 TX4 4).all goodWord = true := by decide +kernel
  have h1 := List.all_eq_true.mp hg w hw
  rw [h] at hw
  obtain ⟨i, -, hi⟩ := List.mem_filterMap.mp hw
  exact gw_of hi h1
theorem nmX5 : ∀ a, a < 2 → ∀ b, b < 2 → a ≠ b → (TX5 a).2.1 ≠ (TX5 b).2.1 := by decide +kernel
theorem tyX5_ok : ∀ k, k < 2 → parseFieldDescriptor (TX5 k).2.2.1 = some (tyX5 k) := by decide +kernel
theorem inX5 : ∀ w ∈ u_ws RX5 TX5 2, w ∈ gtbl := by
  have h : u_ws RX5 TX5 2 = [212, 214].filterMap (fun i => lw_tbl[i]?) := by decide +kernel
  intro w hw
  have hg : (u_ws RX5 TX5 2).all goodWord = true := by decide +kernel
  have h1 := List.all_eq_true.mp hg w hw
  rw [h] at hw
  obtain ⟨i, -, hi⟩ := List.mem_filterMap.mp hw
  exact gw_of hi h1
theorem nmX6 : ∀ a, a < 2 → ∀ b, b < 2 → a ≠ b → (TX6 a).2.1 ≠ (TX6 b).2.1 := by decide +kernel
theorem tyX6_ok : ∀ k, k < 2 → parseFieldDescriptor (TX6 k).2.2.1 = some (tyX6 k) := by decide +kernel
theorem inX6 : ∀ w ∈ u_ws RX6 TX6 2, w ∈ gtbl := by
  have h : u_ws RX6 TX6 2 = [122, 124].filterMap (fun i => lw_tbl[i]?) := by decide +kernel
  intro w hw
  have hg : (u_ws RX6 TX6 2).all goodWord = true := by decide +kernel
  have h1 := List.all_eq_true.mp hg w hw
  rw [h] at hw
  obtain ⟨i, -, hi⟩ := List.mem_filterMap.mp hw
  exact gw_of hi h1
theorem nmX7 : ∀ a, a < 5 → ∀ b, b < 5 → a ≠ b → (TX7 a).2.1 ≠ (TX7 b).2.1 := by decide +kernel
theorem tyX7_ok : ∀ k, k < 5 → parseFieldDescriptor (TX7 k).2.2.1 = some (tyX7 k) := by decide +kernel
theorem inX7 : ∀ w ∈ u_ws RX7 TX7 5, w ∈ gtbl := by
  have h : u_ws RX7 TX7 5 = [162, 164, 166, 168, 170].filterMap (fun i => lw_tbl[i]?) := by decide +kernel
  intro w hw
  have hg : (u_ws RX7 TX7 5).all goodWord = true := by decide +kernel
  have h1 := List.all_eq_true.mp hg w hw
  rw [h] at hw
  obtain ⟨i, -, hi⟩ := List.mem_filterMap.mp hw
  exact gw_of hi h1
theorem nmX8 : ∀ a, a < 18 → ∀ b, b < 18 → a ≠ b → (TX8 a).2.1 ≠ (TX8 b).2.1 := by decide +kernel
theorem tyX8_ok : ∀ k, k < 18 → parseFieldDescriptor (TX8 k).2.2.1 = some (tyX8 k) := by decide +kernel
theorem inX8 : ∀ w ∈ u_ws RX8 TX8 18, w ∈ gtbl := by
  have h : u_ws RX8 TX8 18 = [307, 309, 311, 313, 315, 317, 319, 321, 323, 325, 327, 329, 331, 333, 335, 337, 339, 341].filterMap (fun i => lw_tbl[i]?) := by decide +kernel
  intro w hw
  have hg : (u_ws RX8 TX8 18).all goodWord = true := by decide +kernel
  have h1 := List.all_eq_true.mp hg w hw
  rw [h] at hw
  obtain ⟨i, -, hi⟩ := List.mem_filterMap.mp hw
  exact gw_of hi h1
theorem nmX9 : ∀ a, a < 14 → ∀ b, b < 14 → a ≠ b → (TX9 a).2.1 ≠ (TX9 b).2.1 := by decide +kernel
theorem tyX9_ok : ∀ k, k < 14 → parseFieldDescriptor (TX9 k).2.2.1 = some (tyX9 k) := by decide +kernel
theorem inX9 : ∀ w ∈ u_ws RX9 TX9 14, w ∈ gtbl := by
  have h : u_ws RX9 TX9 14 = [358, 360, 362, 364, 366, 368, 370, 372, 374, 376, 378, 380, 382, 384].filterMap (fun i => lw_tbl[i]?) := by decide +kernel
  intro w hw
  have hg : (u_ws RX9 TX9 14).all goodWord = true := by decide +kernel
  have h1 := List.all_eq_true.mp hg w hw
  rw [h] at hw
  obtain ⟨i, -, hi⟩ := List.mem_filterMap.mp hw
  exact gw_of hi h1
theorem nmX10 : ∀ a, a < 45 → ∀ b, b < 45 → a ≠ b → (TX10 a).2.1 ≠ (TX10 b).2.1 := by decide +kernel
theorem tyX10_ok : ∀ k, k < 45 → parseFieldDescriptor (TX10 k).2.2.1 = some (tyX10 k) := by decide +kernel
theorem inX10 : ∀ w ∈ u_ws RX10 TX10 45, w ∈ gtbl := by
  have h : u_ws RX10 TX10 45 = [1070, 1072, 1074, 1076, 1078, 1080, 1082, 1084, 1086, 1088, 1090, 1092, 1094, 1096, 1098, 1100, 1102, 1104, 1106, 1108, 1110, 1112, 1114, 1116, 1118, 1120, 1122, 1124, 1126, 1128, 1130, 1132, 1134, 1136, 1138, 1140, 1142, 1144, 1146, 1148, 1150, 1152, 1154, 1156, 1158].filterMap (fun i => lw_tbl[i]?) := by decide +kernel
  intro w hw
  have hg : (u_ws RX10 TX10 45).all goodWord = true := by decide +kernel
  have h1 := List.all_eq_true.mp hg w hw
  rw [h] at hw
  obtain ⟨i, -, hi⟩ := List.mem_filterMap.mp hw
  exact gw_of hi h1
/-- what holds of each class of the table -/
def clOk (ci : Nat) (C : String) (T : u_T) (N : Nat) : Prop := (∀ w ∈ u_ws C T N, w ∈ gtbl) ∧ (∃ ty : Nat → FieldType, ∀ k, k < N → parseFieldDescriptor (T k).2.2.1 = some (ty k)) ∧ (∀ a, a < N → ∀ b, b < N → a ≠ b → (T a).2.1 ≠ (T b).2.1) ∧ (fkT.getD ci []).length = N
theorem cl_ok : ∀ (ci : Nat) (C : String) (T : u_T) (N : Nat), vwC[ci]? = some (C, T, N) → clOk ci C T N := by
  intro ci C T N h
  match ci, h with
  | 0, h => cases h; exact ⟨inX0, ⟨tyX0, tyX0_ok⟩, nmX0, rfl⟩
  | 1, h => cases h; exact ⟨inX1, ⟨tyX1, tyX1_ok⟩, nmX1, rfl⟩
  | 2, h => cases h; exact ⟨inX2, ⟨tyX2, tyX2_ok⟩, nmX2, rfl⟩
  | 3, h => cases h; exact ⟨inX3, ⟨tyX3, tyX3_ok⟩, nmX3, rfl⟩
  | 4, h => cases h; exact ⟨inX4, ⟨tyX4, tyX4_ok⟩, nmX4, rfl⟩
  | 5, h => cases h; exact ⟨inX5, ⟨tyX5, tyX5_ok⟩, nmX5, rfl⟩
  | 6, h => cases h; exact ⟨inX6, ⟨tyX6, tyX6_ok⟩, nmX6, rfl⟩
  | 7, h => cases h; exact ⟨inX7, ⟨tyX7, tyX7_ok⟩, nmX7, rfl⟩
  | 8, h => cases h; exact ⟨inX8, ⟨tyX8, tyX8_ok⟩, nmX8, rfl⟩
  | 9, h => cases h; exact ⟨inX9, ⟨tyX9, tyX9_ok⟩, nmX9, rfl⟩
  | 10, h => cases h; exact ⟨inX10, ⟨tyX10, tyX10_ok⟩, nmX10, rfl⟩
  | k + 11, h => simp at h
abbrev Mt : Type := MethodName × ByteArray × Nat × Option FieldType
abbrev yX0_init : MethodName := ⟨RX0, "<init>", "(LKeptInside$Methods;LKeptInside$Sites;LKeptInside$MaySets;)V"⟩
abbrev mX0_init : Mt := (yX0_init, prog_2_method_1_code, 4, none)
abbrev yX0_ofSite : MethodName := ⟨RX0, "ofSite", "(I)I"⟩
abbrev mX0_ofSite : Mt := (yX0_ofSite, prog_2_method_2_code, 2, (some .int))
abbrev yX0_idleLines : MethodName := ⟨RX0, "idleLines", "(I)I"⟩
abbrev mX0_idleLines : Mt := (yX0_idleLines, prog_2_method_3_code, 2, (some .int))
abbrev yX0_countOf : MethodName := ⟨RX0, "countOf", "(I)I"⟩
abbrev mX0_countOf : Mt := (yX0_countOf, prog_2_method_4_code, 4, (some .int))
abbrev yX0_keptIn : MethodName := ⟨RX0, "keptIn", "(I)I"⟩
abbrev mX0_keptIn : Mt := (yX0_keptIn, prog_2_method_5_code, 4, (some .int))
abbrev yX0_find : MethodName := ⟨RX0, "find", "()V"⟩
abbrev mX0_find : Mt := (yX0_find, prog_2_method_6_code, 4, none)
abbrev yX0_giveFates : MethodName := ⟨RX0, "giveFates", "(III)V"⟩
abbrev mX0_giveFates : Mt := (yX0_giveFates, prog_2_method_7_code, 5, none)
abbrev yX0_fateOf : MethodName := ⟨RX0, "fateOf", "(II)I"⟩
abbrev mX0_fateOf : Mt := (yX0_fateOf, prog_2_method_8_code, 2, (some .int))
abbrev yX0_allKept : MethodName := ⟨RX0, "allKept", "()I"⟩
abbrev mX0_allKept : Mt := (yX0_allKept, prog_2_method_9_code, 3, (some .int))
abbrev yX0_idleAmong : MethodName := ⟨RX0, "idleAmong", "(II)I"⟩
abbrev mX0_idleAmong : Mt := (yX0_idleAmong, prog_2_method_10_code, 6, (some .int))
abbrev yX1_init : MethodName := ⟨RX1, "<init>", "(LKeptInside$Methods;LKeptInside$Sites;)V"⟩
abbrev mX1_init : Mt := (yX1_init, prog_3_method_1_code, 3, none)
abbrev yX1_inName : MethodName := ⟨RX1, "inName", "(II)I"⟩
abbrev mX1_inName : Mt := (yX1_inName, prog_3_method_2_code, 3, (some .int))
abbrev yX1_inField : MethodName := ⟨RX1, "inField", "(I)I"⟩
abbrev mX1_inField : Mt := (yX1_inField, prog_3_method_3_code, 2, (some .int))
abbrev yX1_inOpenPlace : MethodName := ⟨RX1, "inOpenPlace", "()I"⟩
abbrev mX1_inOpenPlace : Mt := (yX1_inOpenPlace, prog_3_method_4_code, 1, (some .int))
abbrev yX1_reachedFrom : MethodName := ⟨RX1, "reachedFrom", "(I)I"⟩
abbrev mX1_reachedFrom : Mt := (yX1_reachedFrom, prog_3_method_5_code, 5, (some .int))
abbrev yX1_find : MethodName := ⟨RX1, "find", "()V"⟩
abbrev mX1_find : Mt := (yX1_find, prog_3_method_6_code, 4, none)
abbrev yX1_addByLine : MethodName := ⟨RX1, "addByLine", "(II)V"⟩
abbrev mX1_addByLine : Mt := (yX1_addByLine, prog_3_method_7_code, 5, none)
abbrev yX1_addToName : MethodName := ⟨RX1, "addToName", "(III)V"⟩
abbrev mX1_addToName : Mt := (yX1_addToName, prog_3_method_8_code, 5, none)
abbrev yX1_addToOpenPlace : MethodName := ⟨RX1, "addToOpenPlace", "(I)V"⟩
abbrev mX1_addToOpenPlace : Mt := (yX1_addToOpenPlace, prog_3_method_9_code, 2, none)
abbrev yX1_addToFields : MethodName := ⟨RX1, "addToFields", "(II)V"⟩
abbrev mX1_addToFields : Mt := (yX1_addToFields, prog_3_method_10_code, 4, none)
abbrev yX1_inFields : MethodName := ⟨RX1, "inFields", "(I)I"⟩
abbrev mX1_inFields : Mt := (yX1_inFields, prog_3_method_11_code, 4, (some .int))
abbrev yX2_init : MethodName := ⟨RX2, "<init>", "()V"⟩
abbrev mX2_init : Mt := (yX2_init, prog_4_method_1_code, 1, none)
abbrev yX2_count : MethodName := ⟨RX2, "count", "()I"⟩
abbrev mX2_count : Mt := (yX2_count, prog_4_method_2_code, 1, (some .int))
abbrev yX2_has : MethodName := ⟨RX2, "has", "(I)Z"⟩
abbrev mX2_has : Mt := (yX2_has, prog_4_method_3_code, 2, (some .boolean))
abbrev yX2_lines : MethodName := ⟨RX2, "lines", "(I)I"⟩
abbrev mX2_lines : Mt := (yX2_lines, prog_4_method_4_code, 2, (some .int))
abbrev yX2_hasLine : MethodName := ⟨RX2, "hasLine", "(II)Z"⟩
abbrev mX2_hasLine : Mt := (yX2_hasLine, prog_4_method_5_code, 3, (some .boolean))
abbrev yX2_sort : MethodName := ⟨RX2, "sort", "(II)I"⟩
abbrev mX2_sort : Mt := (yX2_sort, prog_4_method_6_code, 3, (some .int))
abbrev yX2_name : MethodName := ⟨RX2, "name", "(II)I"⟩
abbrev mX2_name : Mt := (yX2_name, prog_4_method_7_code, 3, (some .int))
abbrev yX2_hasOther : MethodName := ⟨RX2, "hasOther", "(II)Z"⟩
abbrev mX2_hasOther : Mt := (yX2_hasOther, prog_4_method_8_code, 4, (some .boolean))
abbrev yX2_other : MethodName := ⟨RX2, "other", "(II)I"⟩
abbrev mX2_other : Mt := (yX2_other, prog_4_method_9_code, 3, (some .int))
abbrev yX2_callee : MethodName := ⟨RX2, "callee", "(II)I"⟩
abbrev mX2_callee : Mt := (yX2_callee, prog_4_method_10_code, 3, (some .int))
abbrev yX2_calledBy : MethodName := ⟨RX2, "calledBy", "(I)I"⟩
abbrev mX2_calledBy : Mt := (yX2_calledBy, prog_4_method_11_code, 4, (some .int))
abbrev yX2_becomeNone : MethodName := ⟨RX2, "becomeNone", "()V"⟩
abbrev mX2_becomeNone : Mt := (yX2_becomeNone, prog_4_method_12_code, 1, none)
abbrev yX2_addMethod : MethodName := ⟨RX2, "addMethod", "()V"⟩
abbrev mX2_addMethod : Mt := (yX2_addMethod, prog_4_method_13_code, 1, none)
abbrev yX2_addLine : MethodName := ⟨RX2, "addLine", "(IIII)V"⟩
abbrev mX2_addLine : Mt := (yX2_addLine, prog_4_method_14_code, 6, none)
abbrev yX2_removeLine : MethodName := ⟨RX2, "removeLine", "(II)V"⟩
abbrev mX2_removeLine : Mt := (yX2_removeLine, prog_4_method_15_code, 4, none)
abbrev yX2_swapWithNext : MethodName := ⟨RX2, "swapWithNext", "(II)V"⟩
abbrev mX2_swapWithNext : Mt := (yX2_swapWithNext, prog_4_method_16_code, 5, none)
abbrev yX2_becomeLike : MethodName := ⟨RX2, "becomeLike", "(LKeptInside$Methods;)V"⟩
abbrev mX2_becomeLike : Mt := (yX2_becomeLike, prog_4_method_17_code, 2, none)
abbrev yX2_code : MethodName := ⟨RX2, "code", "(II)I"⟩
abbrev mX2_code : Mt := (yX2_code, prog_4_method_18_code, 3, (some .int))
abbrev yX3_init : MethodName := ⟨RX3, "<init>", "(LKeptInside$Text;LKeptInside$Methods;)V"⟩
abbrev mX3_init : Mt := (yX3_init, prog_5_method_1_code, 3, none)
abbrev yX3_readAll : MethodName := ⟨RX3, "readAll", "()I"⟩
abbrev mX3_readAll : Mt := (yX3_readAll, prog_5_method_2_code, 2, (some .int))
abbrev yX3_firstMissingCall : MethodName := ⟨RX3, "firstMissingCall", "()I"⟩
abbrev mX3_firstMissingCall : Mt := (yX3_firstMissingCall, prog_5_method_3_code, 3, (some .int))
abbrev yX3_readMethod : MethodName := ⟨RX3, "readMethod", "(I)V"⟩
abbrev mX3_readMethod : Mt := (yX3_readMethod, prog_5_method_4_code, 3, none)
abbrev yX3_readLine : MethodName := ⟨RX3, "readLine", "(I)V"⟩
abbrev mX3_readLine : Mt := (yX3_readLine, prog_5_method_5_code, 2, none)
abbrev yX3_readPut : MethodName := ⟨RX3, "readPut", "()V"⟩
abbrev mX3_readPut : Mt := (yX3_readPut, prog_5_method_6_code, 1, none)
abbrev yX3_readValue : MethodName := ⟨RX3, "readValue", "(I)V"⟩
abbrev mX3_readValue : Mt := (yX3_readValue, prog_5_method_7_code, 3, none)
abbrev yX3_noteCall : MethodName := ⟨RX3, "noteCall", "()V"⟩
abbrev mX3_noteCall : Mt := (yX3_noteCall, prog_5_method_8_code, 1, none)
abbrev yX3_take : MethodName := ⟨RX3, "take", "(I)V"⟩
abbrev mX3_take : Mt := (yX3_take, prog_5_method_9_code, 2, none)
abbrev yX3_refuse : MethodName := ⟨RX3, "refuse", "()V"⟩
abbrev mX3_refuse : Mt := (yX3_refuse, prog_5_method_10_code, 1, none)
abbrev yX3_takeName : MethodName := ⟨RX3, "takeName", "()I"⟩
abbrev mX3_takeName : Mt := (yX3_takeName, prog_5_method_11_code, 2, (some .int))
abbrev yX3_nameOf : MethodName := ⟨RX3, "nameOf", "(I)I"⟩
abbrev mX3_nameOf : Mt := (yX3_nameOf, prog_5_method_12_code, 1, (some .int))
abbrev yX4_init : MethodName := ⟨RX4, "<init>", "()V"⟩
abbrev mX4_init : Mt := (yX4_init, prog_6_method_1_code, 1, none)
abbrev yX4_count : MethodName := ⟨RX4, "count", "()I"⟩
abbrev mX4_count : Mt := (yX4_count, prog_6_method_2_code, 1, (some .int))
abbrev yX4_methodOf : MethodName := ⟨RX4, "methodOf", "(I)I"⟩
abbrev mX4_methodOf : Mt := (yX4_methodOf, prog_6_method_3_code, 2, (some .int))
abbrev yX4_lineOf : MethodName := ⟨RX4, "lineOf", "(I)I"⟩
abbrev mX4_lineOf : Mt := (yX4_lineOf, prog_6_method_4_code, 2, (some .int))
abbrev yX4_inMethod : MethodName := ⟨RX4, "inMethod", "(I)I"⟩
abbrev mX4_inMethod : Mt := (yX4_inMethod, prog_6_method_5_code, 2, (some .int))
abbrev yX4_ofLine : MethodName := ⟨RX4, "ofLine", "(II)I"⟩
abbrev mX4_ofLine : Mt := (yX4_ofLine, prog_6_method_6_code, 3, (some .int))
abbrev yX4_number : MethodName := ⟨RX4, "number", "(LKeptInside$Methods;)V"⟩
abbrev mX4_number : Mt := (yX4_number, prog_6_method_7_code, 4, none)
abbrev yX4_add : MethodName := ⟨RX4, "add", "(II)V"⟩
abbrev mX4_add : Mt := (yX4_add, prog_6_method_8_code, 3, none)
abbrev yX5_init : MethodName := ⟨RX5, "<init>", "()V"⟩
abbrev mX5_init : Mt := (yX5_init, prog_7_method_1_code, 2, none)
abbrev yX5_count : MethodName := ⟨RX5, "count", "()I"⟩
abbrev mX5_count : Mt := (yX5_count, prog_7_method_2_code, 1, (some .int))
abbrev yX5_keep : MethodName := ⟨RX5, "keep", "(LKeptInside$Methods;)V"⟩
abbrev mX5_keep : Mt := (yX5_keep, prog_7_method_3_code, 2, none)
abbrev yX5_giveBack : MethodName := ⟨RX5, "giveBack", "(LKeptInside$Methods;)V"⟩
abbrev mX5_giveBack : Mt := (yX5_giveBack, prog_7_method_4_code, 2, none)
abbrev yX5_loseOldest : MethodName := ⟨RX5, "loseOldest", "()V"⟩
abbrev mX5_loseOldest : Mt := (yX5_loseOldest, prog_7_method_5_code, 3, none)
abbrev yX6_init : MethodName := ⟨RX6, "<init>", "()V"⟩
abbrev mX6_init : Mt := (yX6_init, prog_8_method_1_code, 1, none)
abbrev yX6_length : MethodName := ⟨RX6, "length", "()I"⟩
abbrev mX6_length : Mt := (yX6_length, prog_8_method_2_code, 1, (some .int))
abbrev yX6_isFull : MethodName := ⟨RX6, "isFull", "()Z"⟩
abbrev mX6_isFull : Mt := (yX6_isFull, prog_8_method_3_code, 1, (some .boolean))
abbrev yX6_append : MethodName := ⟨RX6, "append", "(I)V"⟩
abbrev mX6_append : Mt := (yX6_append, prog_8_method_4_code, 2, none)
abbrev yX6_empty : MethodName := ⟨RX6, "empty", "()V"⟩
abbrev mX6_empty : Mt := (yX6_empty, prog_8_method_5_code, 1, none)
abbrev yX6_at : MethodName := ⟨RX6, "at", "(I)I"⟩
abbrev mX6_at : Mt := (yX6_at, prog_8_method_6_code, 2, (some .int))
abbrev yX7_init : MethodName := ⟨RX7, "<init>", "()V"⟩
abbrev mX7_init : Mt := (yX7_init, prog_9_method_1_code, 1, none)
abbrev yX7_ahead : MethodName := ⟨RX7, "ahead", "()I"⟩
abbrev mX7_ahead : Mt := (yX7_ahead, prog_9_method_2_code, 1, (some .int))
abbrev yX7_place : MethodName := ⟨RX7, "place", "()I"⟩
abbrev mX7_place : Mt := (yX7_place, prog_9_method_3_code, 1, (some .int))
abbrev yX7_step : MethodName := ⟨RX7, "step", "()V"⟩
abbrev mX7_step : Mt := (yX7_step, prog_9_method_4_code, 1, none)
abbrev yX7_cut : MethodName := ⟨RX7, "cut", "(LKeptInside$Text;)V"⟩
abbrev mX7_cut : Mt := (yX7_cut, prog_9_method_5_code, 4, none)
abbrev yX7_add : MethodName := ⟨RX7, "add", "(II)V"⟩
abbrev mX7_add : Mt := (yX7_add, prog_9_method_6_code, 3, none)
abbrev yX7_lettersFrom : MethodName := ⟨RX7, "lettersFrom", "(LKeptInside$Text;I)I"⟩
abbrev mX7_lettersFrom : Mt := (yX7_lettersFrom, prog_9_method_7_code, 3, (some .int))
abbrev yX7_wordKind : MethodName := ⟨RX7, "wordKind", "(LKeptInside$Text;II)I"⟩
abbrev mX7_wordKind : Mt := (yX7_wordKind, prog_9_method_8_code, 3, (some .int))
abbrev yX7_spells : MethodName := ⟨RX7, "spells", "(LKeptInside$Text;IILjava/lang/String;)Z"⟩
abbrev mX7_spells : Mt := (yX7_spells, prog_9_method_9_code, 6, (some .boolean))
abbrev yX8_init : MethodName := ⟨RX8, "<init>", "(LKeptInside$Methods;LKeptInside$Sites;LKeptInside$Fates;)V"⟩
abbrev mX8_init : Mt := (yX8_init, prog_10_method_1_code, 4, none)
abbrev yX8_failed : MethodName := ⟨RX8, "failed", "()Z"⟩
abbrev mX8_failed : Mt := (yX8_failed, prog_10_method_2_code, 1, (some .boolean))
abbrev yX8_made : MethodName := ⟨RX8, "made", "()I"⟩
abbrev mX8_made : Mt := (yX8_made, prog_10_method_3_code, 1, (some .int))
abbrev yX8_locks : MethodName := ⟨RX8, "locks", "()I"⟩
abbrev mX8_locks : Mt := (yX8_locks, prog_10_method_4_code, 1, (some .int))
abbrev yX8_idleLocks : MethodName := ⟨RX8, "idleLocks", "()I"⟩
abbrev mX8_idleLocks : Mt := (yX8_idleLocks, prog_10_method_5_code, 1, (some .int))
abbrev yX8_calls : MethodName := ⟨RX8, "calls", "()I"⟩
abbrev mX8_calls : Mt := (yX8_calls, prog_10_method_6_code, 1, (some .int))
abbrev yX8_leaks : MethodName := ⟨RX8, "leaks", "()I"⟩
abbrev mX8_leaks : Mt := (yX8_leaks, prog_10_method_7_code, 1, (some .int))
abbrev yX8_madeOf : MethodName := ⟨RX8, "madeOf", "(I)I"⟩
abbrev mX8_madeOf : Mt := (yX8_madeOf, prog_10_method_8_code, 2, (some .int))
abbrev yX8_leaksOf : MethodName := ⟨RX8, "leaksOf", "(I)I"⟩
abbrev mX8_leaksOf : Mt := (yX8_leaksOf, prog_10_method_9_code, 2, (some .int))
abbrev yX8_locksOf : MethodName := ⟨RX8, "locksOf", "(I)I"⟩
abbrev mX8_locksOf : Mt := (yX8_locksOf, prog_10_method_10_code, 2, (some .int))
abbrev yX8_siteInOpenPlace : MethodName := ⟨RX8, "siteInOpenPlace", "()I"⟩
abbrev mX8_siteInOpenPlace : Mt := (yX8_siteInOpenPlace, prog_10_method_11_code, 1, (some .int))
abbrev yX8_start : MethodName := ⟨RX8, "start", "()V"⟩
abbrev mX8_start : Mt := (yX8_start, prog_10_method_12_code, 1, none)
abbrev yX8_callMethod : MethodName := ⟨RX8, "callMethod", "(II)I"⟩
abbrev mX8_callMethod : Mt := (yX8_callMethod, prog_10_method_13_code, 5, (some .int))
abbrev yX8_doLine : MethodName := ⟨RX8, "doLine", "(III)V"⟩
abbrev mX8_doLine : Mt := (yX8_doLine, prog_10_method_14_code, 7, none)
abbrev yX8_callFrom : MethodName := ⟨RX8, "callFrom", "(III)V"⟩
abbrev mX8_callFrom : Mt := (yX8_callFrom, prog_10_method_15_code, 5, none)
abbrev yX8_newThing : MethodName := ⟨RX8, "newThing", "(II)I"⟩
abbrev mX8_newThing : Mt := (yX8_newThing, prog_10_method_16_code, 3, (some .int))
abbrev yX8_makeMoreRoom : MethodName := ⟨RX8, "makeMoreRoom", "()V"⟩
abbrev mX8_makeMoreRoom : Mt := (yX8_makeMoreRoom, prog_10_method_17_code, 2, none)
abbrev yX8_putIntoField : MethodName := ⟨RX8, "putIntoField", "(II)V"⟩
abbrev mX8_putIntoField : Mt := (yX8_putIntoField, prog_10_method_18_code, 3, none)
abbrev yX8_takeFromField : MethodName := ⟨RX8, "takeFromField", "(I)I"⟩
abbrev mX8_takeFromField : Mt := (yX8_takeFromField, prog_10_method_19_code, 2, (some .int))
abbrev yX8_lock : MethodName := ⟨RX8, "lock", "(II)V"⟩
abbrev mX8_lock : Mt := (yX8_lock, prog_10_method_20_code, 3, none)
abbrev yX8_findLeaks : MethodName := ⟨RX8, "findLeaks", "(IIII)V"⟩
abbrev mX8_findLeaks : Mt := (yX8_findLeaks, prog_10_method_21_code, 6, none)
abbrev yX8_followFrom : MethodName := ⟨RX8, "followFrom", "(III)I"⟩
abbrev mX8_followFrom : Mt := (yX8_followFrom, prog_10_method_22_code, 7, (some .int))
abbrev yX8_isThing : MethodName := ⟨RX8, "isThing", "(I)Z"⟩
abbrev mX8_isThing : Mt := (yX8_isThing, prog_10_method_23_code, 2, (some .boolean))
abbrev yX8_inName : MethodName := ⟨RX8, "inName", "(II)I"⟩
abbrev mX8_inName : Mt := (yX8_inName, prog_10_method_24_code, 3, (some .int))
abbrev yX8_setName : MethodName := ⟨RX8, "setName", "(III)V"⟩
abbrev mX8_setName : Mt := (yX8_setName, prog_10_method_25_code, 4, none)
abbrev yX9_init : MethodName := ⟨RX9, "<init>", "()V"⟩
abbrev mX9_init : Mt := (yX9_init, prog_1_method_1_code, 1, none)
abbrev yX9_type : MethodName := ⟨RX9, "type", "(I)I"⟩
abbrev mX9_type : Mt := (yX9_type, prog_1_method_2_code, 2, (some .int))
abbrev yX9_clear : MethodName := ⟨RX9, "clear", "()I"⟩
abbrev mX9_clear : Mt := (yX9_clear, prog_1_method_3_code, 2, (some .int))
abbrev yX9_reads : MethodName := ⟨RX9, "reads", "()I"⟩
abbrev mX9_reads : Mt := (yX9_reads, prog_1_method_4_code, 2, (some .int))
abbrev yX9_drops : MethodName := ⟨RX9, "drops", "(II)I"⟩
abbrev mX9_drops : Mt := (yX9_drops, prog_1_method_5_code, 3, (some .int))
abbrev yX9_swaps : MethodName := ⟨RX9, "swaps", "(II)I"⟩
abbrev mX9_swaps : Mt := (yX9_swaps, prog_1_method_6_code, 3, (some .int))
abbrev yX9_of : MethodName := ⟨RX9, "of", "(II)I"⟩
abbrev mX9_of : Mt := (yX9_of, prog_1_method_7_code, 3, (some .int))
abbrev yX9_line : MethodName := ⟨RX9, "line", "(III)I"⟩
abbrev mX9_line : Mt := (yX9_line, prog_1_method_8_code, 4, (some .int))
abbrev yX9_site : MethodName := ⟨RX9, "site", "(II)I"⟩
abbrev mX9_site : Mt := (yX9_site, prog_1_method_9_code, 3, (some .int))
abbrev yX9_may : MethodName := ⟨RX9, "may", "(II)I"⟩
abbrev mX9_may : Mt := (yX9_may, prog_1_method_10_code, 3, (some .int))
abbrev yX9_open : MethodName := ⟨RX9, "open", "()I"⟩
abbrev mX9_open : Mt := (yX9_open, prog_1_method_11_code, 1, (some .int))
abbrev yX9_reached : MethodName := ⟨RX9, "reached", "(II)I"⟩
abbrev mX9_reached : Mt := (yX9_reached, prog_1_method_12_code, 3, (some .int))
abbrev yX9_fates : MethodName := ⟨RX9, "fates", "(I)I"⟩
abbrev mX9_fates : Mt := (yX9_fates, prog_1_method_13_code, 2, (some .int))
abbrev yX9_run : MethodName := ⟨RX9, "run", "(I)I"⟩
abbrev mX9_run : Mt := (yX9_run, prog_1_method_14_code, 2, (some .int))
abbrev yX9_ran : MethodName := ⟨RX9, "ran", "(II)I"⟩
abbrev mX9_ran : Mt := (yX9_ran, prog_1_method_15_code, 3, (some .int))
abbrev yX9_held : MethodName := ⟨RX9, "held", "()I"⟩
abbrev mX9_held : Mt := (yX9_held, prog_1_method_16_code, 1, (some .int))
abbrev yX9_back : MethodName := ⟨RX9, "back", "()I"⟩
abbrev mX9_back : Mt := (yX9_back, prog_1_method_17_code, 1, (some .int))
abbrev yX9_told : MethodName := ⟨RX9, "told", "(I)I"⟩
abbrev mX9_told : Mt := (yX9_told, prog_1_method_18_code, 2, (some .int))
abbrev yX9_digest : MethodName := ⟨RX9, "digest", "()J"⟩
abbrev mX9_digest : Mt := (yX9_digest, prog_1_method_19_code, 4, (some .long))
abbrev yX9_digestWithMethod : MethodName := ⟨RX9, "digestWithMethod", "(JI)J"⟩
abbrev mX9_digestWithMethod : Mt := (yX9_digestWithMethod, prog_1_method_20_code, 8, (some .long))
abbrev yX9_digestWithSite : MethodName := ⟨RX9, "digestWithSite", "(JI)J"⟩
abbrev mX9_digestWithSite : Mt := (yX9_digestWithSite, prog_1_method_21_code, 7, (some .long))
abbrev yX9_ofMethod : MethodName := ⟨RX9, "ofMethod", "(II)I"⟩
abbrev mX9_ofMethod : Mt := (yX9_ofMethod, prog_1_method_22_code, 3, (some .int))
abbrev yX9_ofLine : MethodName := ⟨RX9, "ofLine", "(III)I"⟩
abbrev mX9_ofLine : Mt := (yX9_ofLine, prog_1_method_23_code, 4, (some .int))
abbrev yX9_ofSite : MethodName := ⟨RX9, "ofSite", "(II)I"⟩
abbrev mX9_ofSite : Mt := (yX9_ofSite, prog_1_method_24_code, 3, (some .int))
abbrev yX9_ofRun : MethodName := ⟨RX9, "ofRun", "(I)I"⟩
abbrev mX9_ofRun : Mt := (yX9_ofRun, prog_1_method_25_code, 2, (some .int))
abbrev yX9_ofSiteRun : MethodName := ⟨RX9, "ofSiteRun", "(II)I"⟩
abbrev mX9_ofSiteRun : Mt := (yX9_ofSiteRun, prog_1_method_26_code, 3, (some .int))
abbrev yX9_ofAll : MethodName := ⟨RX9, "ofAll", "(I)I"⟩
abbrev mX9_ofAll : Mt := (yX9_ofAll, prog_1_method_27_code, 2, (some .int))
abbrev yX9_refusedAsBad : MethodName := ⟨RX9, "refusedAsBad", "()I"⟩
abbrev mX9_refusedAsBad : Mt := (yX9_refusedAsBad, prog_1_method_28_code, 1, (some .int))
abbrev yX9_refusedAsNo : MethodName := ⟨RX9, "refusedAsNo", "()I"⟩
abbrev mX9_refusedAsNo : Mt := (yX9_refusedAsNo, prog_1_method_29_code, 1, (some .int))
abbrev yX9_refusedAsFull : MethodName := ⟨RX9, "refusedAsFull", "()I"⟩
abbrev mX9_refusedAsFull : Mt := (yX9_refusedAsFull, prog_1_method_30_code, 1, (some .int))
abbrev yX9_isOutside : MethodName := ⟨RX9, "isOutside", "(II)Z"⟩
abbrev mX9_isOutside : Mt := (yX9_isOutside, prog_1_method_31_code, 2, (some .boolean))
abbrev yX9_leaveState : MethodName := ⟨RX9, "leaveState", "()V"⟩
abbrev mX9_leaveState : Mt := (yX9_leaveState, prog_1_method_32_code, 1, none)
abbrev yX9_forgetFindings : MethodName := ⟨RX9, "forgetFindings", "()V"⟩
abbrev mX9_forgetFindings : Mt := (yX9_forgetFindings, prog_1_method_33_code, 1, none)
abbrev yX9_findMays : MethodName := ⟨RX9, "findMays", "()V"⟩
abbrev mX9_findMays : Mt := (yX9_findMays, prog_1_method_34_code, 1, none)
abbrev yX9_findRun : MethodName := ⟨RX9, "findRun", "()V"⟩
abbrev mX9_findRun : Mt := (yX9_findRun, prog_1_method_35_code, 1, none)
abbrev yX10_init : MethodName := ⟨RX10, "<init>", "()V"⟩
abbrev mX10_init : Mt := (yX10_init, prog_12_method_1_code, 1, none)
abbrev yX10_in : MethodName := ⟨RX10, "in", "(III)Z"⟩
abbrev mX10_in : Mt := (yX10_in, prog_12_method_2_code, 3, (some .boolean))
abbrev yX10_bring : MethodName := ⟨RX10, "bring", "([II[II)V"⟩
abbrev mX10_bring : Mt := (yX10_bring, prog_12_method_3_code, 5, none)
abbrev yX10_refuse : MethodName := ⟨RX10, "refuse", "(I)I"⟩
abbrev mX10_refuse : Mt := (yX10_refuse, prog_12_method_4_code, 2, (some .int))
abbrev yX10_note : MethodName := ⟨RX10, "note", "()V"⟩
abbrev mX10_note : Mt := (yX10_note, prog_12_method_5_code, 2, none)
abbrev yX10_isWordByte : MethodName := ⟨RX10, "isWordByte", "()Z"⟩
abbrev mX10_isWordByte : Mt := (yX10_isWordByte, prog_12_method_6_code, 1, (some .boolean))
abbrev yX10_isWord : MethodName := ⟨RX10, "isWord", "(IIII)Z"⟩
abbrev mX10_isWord : Mt := (yX10_isWord, prog_12_method_7_code, 7, (some .boolean))
abbrev yX10_next : MethodName := ⟨RX10, "next", "()V"⟩
abbrev mX10_next : Mt := (yX10_next, prog_12_method_8_code, 1, none)
abbrev yX10_isNext : MethodName := ⟨RX10, "isNext", "(I)Z"⟩
abbrev mX10_isNext : Mt := (yX10_isNext, prog_12_method_9_code, 2, (some .boolean))
abbrev yX10_nameOf : MethodName := ⟨RX10, "nameOf", "(I)I"⟩
abbrev mX10_nameOf : Mt := (yX10_nameOf, prog_12_method_10_code, 1, (some .int))
abbrev yX10_nextName : MethodName := ⟨RX10, "nextName", "()I"⟩
abbrev mX10_nextName : Mt := (yX10_nextName, prog_12_method_11_code, 1, (some .int))
abbrev yX10_readRight : MethodName := ⟨RX10, "readRight", "(I)Z"⟩
abbrev mX10_readRight : Mt := (yX10_readRight, prog_12_method_12_code, 2, (some .boolean))
abbrev yX10_readLine : MethodName := ⟨RX10, "readLine", "(I)Z"⟩
abbrev mX10_readLine : Mt := (yX10_readLine, prog_12_method_13_code, 2, (some .boolean))
abbrev yX10_readMethod : MethodName := ⟨RX10, "readMethod", "()Z"⟩
abbrev mX10_readMethod : Mt := (yX10_readMethod, prog_12_method_14_code, 3, (some .boolean))
abbrev yX10_readText : MethodName := ⟨RX10, "readText", "()I"⟩
abbrev mX10_readText : Mt := (yX10_readText, prog_12_method_15_code, 2, (some .int))
abbrev yX10_type : MethodName := ⟨RX10, "type", "(I)I"⟩
abbrev mX10_type : Mt := (yX10_type, prog_12_method_16_code, 2, (some .int))
abbrev yX10_clear : MethodName := ⟨RX10, "clear", "()I"⟩
abbrev mX10_clear : Mt := (yX10_clear, prog_12_method_17_code, 2, (some .int))
abbrev yX10_reads : MethodName := ⟨RX10, "reads", "()I"⟩
abbrev mX10_reads : Mt := (yX10_reads, prog_12_method_18_code, 2, (some .int))
abbrev yX10_linesOf : MethodName := ⟨RX10, "linesOf", "(I)I"⟩
abbrev mX10_linesOf : Mt := (yX10_linesOf, prog_12_method_19_code, 2, (some .int))
abbrev yX10_lineAt : MethodName := ⟨RX10, "lineAt", "(III)I"⟩
abbrev mX10_lineAt : Mt := (yX10_lineAt, prog_12_method_20_code, 4, (some .int))
abbrev yX10_isMethod : MethodName := ⟨RX10, "isMethod", "(I)Z"⟩
abbrev mX10_isMethod : Mt := (yX10_isMethod, prog_12_method_21_code, 2, (some .boolean))
abbrev yX10_isLine : MethodName := ⟨RX10, "isLine", "(II)Z"⟩
abbrev mX10_isLine : Mt := (yX10_isLine, prog_12_method_22_code, 3, (some .boolean))
abbrev yX10_drops : MethodName := ⟨RX10, "drops", "(II)I"⟩
abbrev mX10_drops : Mt := (yX10_drops, prog_12_method_23_code, 5, (some .int))
abbrev yX10_swaps : MethodName := ⟨RX10, "swaps", "(II)I"⟩
abbrev mX10_swaps : Mt := (yX10_swaps, prog_12_method_24_code, 6, (some .int))
abbrev yX10_findSites : MethodName := ⟨RX10, "findSites", "()V"⟩
abbrev mX10_findSites : Mt := (yX10_findSites, prog_12_method_25_code, 3, none)
abbrev yX10_add : MethodName := ⟨RX10, "add", "(II)V"⟩
abbrev mX10_add : Mt := (yX10_add, prog_12_method_26_code, 3, none)
abbrev yX10_has : MethodName := ⟨RX10, "has", "(II)Z"⟩
abbrev mX10_has : Mt := (yX10_has, prog_12_method_27_code, 2, (some .boolean))
abbrev yX10_fields : MethodName := ⟨RX10, "fields", "(I)I"⟩
abbrev mX10_fields : Mt := (yX10_fields, prog_12_method_28_code, 4, (some .int))
abbrev yX10_goThrough : MethodName := ⟨RX10, "goThrough", "(II)V"⟩
abbrev mX10_goThrough : Mt := (yX10_goThrough, prog_12_method_29_code, 7, none)
abbrev yX10_findMays : MethodName := ⟨RX10, "findMays", "()V"⟩
abbrev mX10_findMays : Mt := (yX10_findMays, prog_12_method_30_code, 3, none)
abbrev yX10_reachedFrom : MethodName := ⟨RX10, "reachedFrom", "(I)I"⟩
abbrev mX10_reachedFrom : Mt := (yX10_reachedFrom, prog_12_method_31_code, 4, (some .int))
abbrev yX10_fateOf : MethodName := ⟨RX10, "fateOf", "(I)I"⟩
abbrev mX10_fateOf : Mt := (yX10_fateOf, prog_12_method_32_code, 3, (some .int))
abbrev yX10_fated : MethodName := ⟨RX10, "fated", "(I)I"⟩
abbrev mX10_fated : Mt := (yX10_fated, prog_12_method_33_code, 4, (some .int))
abbrev yX10_idleOf : MethodName := ⟨RX10, "idleOf", "(I)I"⟩
abbrev mX10_idleOf : Mt := (yX10_idleOf, prog_12_method_34_code, 6, (some .int))
abbrev yX10_ones : MethodName := ⟨RX10, "ones", "(I)I"⟩
abbrev mX10_ones : Mt := (yX10_ones, prog_12_method_35_code, 3, (some .int))
abbrev yX10_ofMethod : MethodName := ⟨RX10, "ofMethod", "(II)I"⟩
abbrev mX10_ofMethod : Mt := (yX10_ofMethod, prog_12_method_36_code, 6, (some .int))
abbrev yX10_of : MethodName := ⟨RX10, "of", "(II)I"⟩
abbrev mX10_of : Mt := (yX10_of, prog_12_method_37_code, 3, (some .int))
abbrev yX10_ofLine : MethodName := ⟨RX10, "ofLine", "(III)I"⟩
abbrev mX10_ofLine : Mt := (yX10_ofLine, prog_12_method_38_code, 6, (some .int))
abbrev yX10_line : MethodName := ⟨RX10, "line", "(III)I"⟩
abbrev mX10_line : Mt := (yX10_line, prog_12_method_39_code, 4, (some .int))
abbrev yX10_ofSite : MethodName := ⟨RX10, "ofSite", "(II)I"⟩
abbrev mX10_ofSite : Mt := (yX10_ofSite, prog_12_method_40_code, 3, (some .int))
abbrev yX10_site : MethodName := ⟨RX10, "site", "(II)I"⟩
abbrev mX10_site : Mt := (yX10_site, prog_12_method_41_code, 3, (some .int))
abbrev yX10_may : MethodName := ⟨RX10, "may", "(II)I"⟩
abbrev mX10_may : Mt := (yX10_may, prog_12_method_42_code, 3, (some .int))
abbrev yX10_open : MethodName := ⟨RX10, "open", "()I"⟩
abbrev mX10_open : Mt := (yX10_open, prog_12_method_43_code, 1, (some .int))
abbrev yX10_reached : MethodName := ⟨RX10, "reached", "(II)I"⟩
abbrev mX10_reached : Mt := (yX10_reached, prog_12_method_44_code, 3, (some .int))
abbrev yX10_fates : MethodName := ⟨RX10, "fates", "(I)I"⟩
abbrev mX10_fates : Mt := (yX10_fates, prog_12_method_45_code, 2, (some .int))
abbrev yX10_call : MethodName := ⟨RX10, "call", "(II)V"⟩
abbrev mX10_call : Mt := (yX10_call, prog_12_method_46_code, 4, none)
abbrev yX10_follow : MethodName := ⟨RX10, "follow", "(II)V"⟩
abbrev mX10_follow : Mt := (yX10_follow, prog_12_method_47_code, 4, none)
abbrev yX10_end : MethodName := ⟨RX10, "end", "()V"⟩
abbrev mX10_end : Mt := (yX10_end, prog_12_method_48_code, 5, none)
abbrev yX10_make : MethodName := ⟨RX10, "make", "(I)I"⟩
abbrev mX10_make : Mt := (yX10_make, prog_12_method_49_code, 2, (some .int))
abbrev yX10_lock : MethodName := ⟨RX10, "lock", "(III)V"⟩
abbrev mX10_lock : Mt := (yX10_lock, prog_12_method_50_code, 4, none)
abbrev yX10_step : MethodName := ⟨RX10, "step", "()V"⟩
abbrev mX10_step : Mt := (yX10_step, prog_12_method_51_code, 7, none)
abbrev yX10_goRun : MethodName := ⟨RX10, "goRun", "()V"⟩
abbrev mX10_goRun : Mt := (yX10_goRun, prog_12_method_52_code, 2, none)
abbrev yX10_ofRun : MethodName := ⟨RX10, "ofRun", "(I)I"⟩
abbrev mX10_ofRun : Mt := (yX10_ofRun, prog_12_method_53_code, 2, (some .int))
abbrev yX10_run : MethodName := ⟨RX10, "run", "(I)I"⟩
abbrev mX10_run : Mt := (yX10_run, prog_12_method_54_code, 2, (some .int))
abbrev yX10_ranOf : MethodName := ⟨RX10, "ranOf", "(II)I"⟩
abbrev mX10_ranOf : Mt := (yX10_ranOf, prog_12_method_55_code, 3, (some .int))
abbrev yX10_ran : MethodName := ⟨RX10, "ran", "(II)I"⟩
abbrev mX10_ran : Mt := (yX10_ran, prog_12_method_56_code, 3, (some .int))
abbrev yX10_heldNow : MethodName := ⟨RX10, "heldNow", "()I"⟩
abbrev mX10_heldNow : Mt := (yX10_heldNow, prog_12_method_57_code, 1, (some .int))
abbrev yX10_held : MethodName := ⟨RX10, "held", "()I"⟩
abbrev mX10_held : Mt := (yX10_held, prog_12_method_58_code, 1, (some .int))
abbrev yX10_back : MethodName := ⟨RX10, "back", "()I"⟩
abbrev mX10_back : Mt := (yX10_back, prog_12_method_59_code, 1, (some .int))
abbrev yX10_toldOf : MethodName := ⟨RX10, "toldOf", "(I)I"⟩
abbrev mX10_toldOf : Mt := (yX10_toldOf, prog_12_method_60_code, 2, (some .int))
abbrev yX10_told : MethodName := ⟨RX10, "told", "(I)I"⟩
abbrev mX10_told : Mt := (yX10_told, prog_12_method_61_code, 2, (some .int))
abbrev yX10_digest : MethodName := ⟨RX10, "digest", "()J"⟩
abbrev mX10_digest : Mt := (yX10_digest, prog_12_method_62_code, 5, (some .long))
abbrev yJ0_length_8abf5 : MethodName := ⟨RJ0, "length", "()I"⟩
abbrev mJ0_length_8abf5 : Mt := (yJ0_length_8abf5, prog_15_method_54_code, 1, (some .int))
abbrev yJ0_charAt_5068e : MethodName := ⟨RJ0, "charAt", "(I)C"⟩
abbrev mJ0_charAt_5068e : Mt := (yJ0_charAt_5068e, prog_15_method_56_code, 2, (some .char))
abbrev yJ0_coder_7d493 : MethodName := ⟨RJ0, "coder", "()B"⟩
abbrev mJ0_coder_7d493 : Mt := (yJ0_coder_7d493, prog_15_method_152_code, 1, (some .byte))
abbrev yJ0_isLatin1_aae02 : MethodName := ⟨RJ0, "isLatin1", "()Z"⟩
abbrev mJ0_isLatin1_aae02 : Mt := (yJ0_isLatin1_aae02, prog_15_method_154_code, 1, (some .boolean))
abbrev yJ0_checkIndex_df160 : MethodName := ⟨RJ0, "checkIndex", "(II)V"⟩
abbrev mJ0_checkIndex_df160 : Mt := (yJ0_checkIndex_df160, prog_15_method_155_code, 2, none)
abbrev yJ1_charAt_3b067 : MethodName := ⟨RJ1, "charAt", "([BI)C"⟩
abbrev mJ1_charAt_3b067 : Mt := (yJ1_charAt_3b067, prog_16_method_2_code, 2, (some .char))
abbrev yJ7_fill_53178 : MethodName := ⟨RJ7, "fill", "([II)V"⟩
abbrev mJ7_fill_53178 : Mt := (yJ7_fill_53178, prog_19_method_103_code, 4, none)
abbrev yJ7_copyOf_59c91 : MethodName := ⟨RJ7, "copyOf", "([II)[I"⟩
abbrev mJ7_copyOf_59c91 : Mt := (yJ7_copyOf_59c91, prog_19_method_123_code, 3, (some (.array .int)))
abbrev yJ3_checkIndex_8e157 : MethodName := ⟨RJ3, "checkIndex", "(IILjava/util/function/BiFunction;)I"⟩
abbrev mJ3_checkIndex_8e157 : Mt := (yJ3_checkIndex_8e157, prog_20_method_11_code, 3, (some .int))
abbrev yL_law : MethodName := x
abbrev mL_law : Mt := (x, code, 4, some .boolean)
/-- a method that can be called: its words, its number of parameters, and its kind: instance or static -/
def MOk (M : Mt) (n : Nat) : Prop := Cond.code M.1 M.2.1 M.2.2.1 M.2.2.2 ∈ gtbl ∧ Cond.initialized M.1.cls ∈ gtbl ∧ (M.1.cls ≠ "java/lang/invoke/MethodHandle" ∧ M.1.cls ≠ "java/lang/invoke/VarHandle" ∧ (parseMethodDescriptor M.1.desc).map (fun d => d.parameters.length) = some n) ∧ plainName M.1.cls = true
def MInst (M : Mt) : Prop := Cond.instanceMethod M.1 ∈ gtbl
def MSel (M : Mt) : Prop := Cond.selects M.1.cls M.1 M.1 ∈ gtbl
def MStat (M : Mt) : Prop := Cond.static M.1 ∈ gtbl
theorem ok_X0_init : MOk mX0_init 3 := ⟨(gw_of (i := 265) (by decide +kernel) (by decide +kernel)), (gw_of (i := 96) (by decide +kernel) (by decide +kernel)), ⟨by decide +kernel, by decide +kernel, by decide +kernel⟩, by decide +kernel⟩
theorem is_X0_init : MInst mX0_init := (gw_of (i := 264) (by decide +kernel) (by decide +kernel))
theorem ok_X0_ofSite : MOk mX0_ofSite 1 := ⟨(gw_of (i := 808) (by decide +kernel) (by decide +kernel)), (gw_of (i := 96) (by decide +kernel) (by decide +kernel)), ⟨by decide +kernel, by decide +kernel, by decide +kernel⟩, by decide +kernel⟩
theorem is_X0_ofSite : MInst mX0_ofSite := (gw_of (i := 806) (by decide +kernel) (by decide +kernel))
theorem se_X0_ofSite : MSel mX0_ofSite := (gw_of (i := 807) (by decide +kernel) (by decide +kernel))
theorem ok_X0_idleLines : MOk mX0_idleLines 1 := ⟨(gw_of (i := 766) (by decide +kernel) (by decide +kernel)), (gw_of (i := 96) (by decide +kernel) (by decide +kernel)), ⟨by decide +kernel, by decide +kernel, by decide +kernel⟩, by decide +kernel⟩
theorem is_X0_idleLines : MInst mX0_idleLines := (gw_of (i := 764) (by decide +kernel) (by decide +kernel))
theorem se_X0_idleLines : MSel mX0_idleLines := (gw_of (i := 765) (by decide +kernel) (by decide +kernel))
theorem ok_X0_countOf : MOk mX0_countOf 1 := ⟨(gw_of (i := 835) (by decide +kernel) (by decide +kernel)), (gw_of (i := 96) (by decide +kernel) (by decide +kernel)), ⟨by decide +kernel, by decide +kernel, by decide +kernel⟩, by decide +kernel⟩
theorem is_X0_countOf : MInst mX0_countOf := (gw_of (i := 833) (by decide +kernel) (by decide +kernel))
theorem se_X0_countOf : MSel mX0_countOf := (gw_of (i := 834) (by decide +kernel) (by decide +kernel))
theorem ok_X0_keptIn : MOk mX0_keptIn 1 := ⟨(gw_of (i := 762) (by decide +kernel) (by decide +kernel)), (gw_of (i := 96) (by decide +kernel) (by decide +kernel)), ⟨by decide +kernel, by decide +kernel, by decide +kernel⟩, by decide +kernel⟩
theorem is_X0_keptIn : MInst mX0_keptIn := (gw_of (i := 760) (by decide +kernel) (by decide +kernel))
theorem se_X0_keptIn : MSel mX0_keptIn := (gw_of (i := 761) (by decide +kernel) (by decide +kernel))
theorem ok_X0_find : MOk mX0_find 0 := ⟨(gw_of (i := 717) (by decide +kernel) (by decide +kernel)), (gw_of (i := 96) (by decide +kernel) (by decide +kernel)), ⟨by decide +kernel, by decide +kernel, by decide +kernel⟩, by decide +kernel⟩
theorem is_X0_find : MInst mX0_find := (gw_of (i := 715) (by decide +kernel) (by decide +kernel))
theorem se_X0_find : MSel mX0_find := (gw_of (i := 716) (by decide +kernel) (by decide +kernel))
theorem ok_X0_giveFates : MOk mX0_giveFates 3 := ⟨(gw_of (i := 731) (by decide +kernel) (by decide +kernel)), (gw_of (i := 96) (by decide +kernel) (by decide +kernel)), ⟨by decide +kernel, by decide +kernel, by decide +kernel⟩, by decide +kernel⟩
theorem is_X0_giveFates : MInst mX0_giveFates := (gw_of (i := 730) (by decide +kernel) (by decide +kernel))
theorem se_X0_giveFates : MSel mX0_giveFates := (gw_of (i := 23) (by decide +kernel) (by decide +kernel))
theorem ok_X0_fateOf : MOk mX0_fateOf 2 := ⟨(gw_of (i := 739) (by decide +kernel) (by decide +kernel)), (gw_of (i := 96) (by decide +kernel) (by decide +kernel)), ⟨by decide +kernel, by decide +kernel, by decide +kernel⟩, by decide +kernel⟩
theorem st_X0_fateOf : MStat mX0_fateOf := (gw_of (i := 738) (by decide +kernel) (by decide +kernel))
theorem ok_X0_allKept : MOk mX0_allKept 0 := ⟨(gw_of (i := 743) (by decide +kernel) (by decide +kernel)), (gw_of (i := 96) (by decide +kernel) (by decide +kernel)), ⟨by decide +kernel, by decide +kernel, by decide +kernel⟩, by decide +kernel⟩
theorem is_X0_allKept : MInst mX0_allKept := (gw_of (i := 742) (by decide +kernel) (by decide +kernel))
theorem se_X0_allKept : MSel mX0_allKept := (gw_of (i := 24) (by decide +kernel) (by decide +kernel))
theorem ok_X0_idleAmong : MOk mX0_idleAmong 2 := ⟨(gw_of (i := 747) (by decide +kernel) (by decide +kernel)), (gw_of (i := 96) (by decide +kernel) (by decide +kernel)), ⟨by decide +kernel, by decide +kernel, by decide +kernel⟩, by decide +kernel⟩
theorem is_X0_idleAmong : MInst mX0_idleAmong := (gw_of (i := 746) (by decide +kernel) (by decide +kernel))
theorem se_X0_idleAmong : MSel mX0_idleAmong := (gw_of (i := 25) (by decide +kernel) (by decide +kernel))
theorem ok_X1_init : MOk mX1_init 2 := ⟨(gw_of (i := 240) (by decide +kernel) (by decide +kernel)), (gw_of (i := 95) (by decide +kernel) (by decide +kernel)), ⟨by decide +kernel, by decide +kernel, by decide +kernel⟩, by decide +kernel⟩
theorem is_X1_init : MInst mX1_init := (gw_of (i := 239) (by decide +kernel) (by decide +kernel))
theorem ok_X1_inName : MOk mX1_inName 2 := ⟨(gw_of (i := 682) (by decide +kernel) (by decide +kernel)), (gw_of (i := 95) (by decide +kernel) (by decide +kernel)), ⟨by decide +kernel, by decide +kernel, by decide +kernel⟩, by decide +kernel⟩
theorem is_X1_inName : MInst mX1_inName := (gw_of (i := 680) (by decide +kernel) (by decide +kernel))
theorem se_X1_inName : MSel mX1_inName := (gw_of (i := 681) (by decide +kernel) (by decide +kernel))
theorem ok_X1_inField : MOk mX1_inField 1 := ⟨(gw_of (i := 812) (by decide +kernel) (by decide +kernel)), (gw_of (i := 95) (by decide +kernel) (by decide +kernel)), ⟨by decide +kernel, by decide +kernel, by decide +kernel⟩, by decide +kernel⟩
theorem is_X1_inField : MInst mX1_inField := (gw_of (i := 810) (by decide +kernel) (by decide +kernel))
theorem se_X1_inField : MSel mX1_inField := (gw_of (i := 811) (by decide +kernel) (by decide +kernel))
theorem ok_X1_inOpenPlace : MOk mX1_inOpenPlace 0 := ⟨(gw_of (i := 721) (by decide +kernel) (by decide +kernel)), (gw_of (i := 95) (by decide +kernel) (by decide +kernel)), ⟨by decide +kernel, by decide +kernel, by decide +kernel⟩, by decide +kernel⟩
theorem is_X1_inOpenPlace : MInst mX1_inOpenPlace := (gw_of (i := 719) (by decide +kernel) (by decide +kernel))
theorem se_X1_inOpenPlace : MSel mX1_inOpenPlace := (gw_of (i := 720) (by decide +kernel) (by decide +kernel))
theorem ok_X1_reachedFrom : MOk mX1_reachedFrom 1 := ⟨(gw_of (i := 725) (by decide +kernel) (by decide +kernel)), (gw_of (i := 95) (by decide +kernel) (by decide +kernel)), ⟨by decide +kernel, by decide +kernel, by decide +kernel⟩, by decide +kernel⟩
theorem is_X1_reachedFrom : MInst mX1_reachedFrom := (gw_of (i := 723) (by decide +kernel) (by decide +kernel))
theorem se_X1_reachedFrom : MSel mX1_reachedFrom := (gw_of (i := 724) (by decide +kernel) (by decide +kernel))
theorem ok_X1_find : MOk mX1_find 0 := ⟨(gw_of (i := 663) (by decide +kernel) (by decide +kernel)), (gw_of (i := 95) (by decide +kernel) (by decide +kernel)), ⟨by decide +kernel, by decide +kernel, by decide +kernel⟩, by decide +kernel⟩
theorem is_X1_find : MInst mX1_find := (gw_of (i := 661) (by decide +kernel) (by decide +kernel))
theorem se_X1_find : MSel mX1_find := (gw_of (i := 662) (by decide +kernel) (by decide +kernel))
theorem ok_X1_addByLine : MOk mX1_addByLine 2 := ⟨(gw_of (i := 670) (by decide +kernel) (by decide +kernel)), (gw_of (i := 95) (by decide +kernel) (by decide +kernel)), ⟨by decide +kernel, by decide +kernel, by decide +kernel⟩, by decide +kernel⟩
theorem is_X1_addByLine : MInst mX1_addByLine := (gw_of (i := 669) (by decide +kernel) (by decide +kernel))
theorem se_X1_addByLine : MSel mX1_addByLine := (gw_of (i := 18) (by decide +kernel) (by decide +kernel))
theorem ok_X1_addToName : MOk mX1_addToName 3 := ⟨(gw_of (i := 693) (by decide +kernel) (by decide +kernel)), (gw_of (i := 95) (by decide +kernel) (by decide +kernel)), ⟨by decide +kernel, by decide +kernel, by decide +kernel⟩, by decide +kernel⟩
theorem is_X1_addToName : MInst mX1_addToName := (gw_of (i := 692) (by decide +kernel) (by decide +kernel))
theorem se_X1_addToName : MSel mX1_addToName := (gw_of (i := 19) (by decide +kernel) (by decide +kernel))
theorem ok_X1_addToOpenPlace : MOk mX1_addToOpenPlace 1 := ⟨(gw_of (i := 709) (by decide +kernel) (by decide +kernel)), (gw_of (i := 95) (by decide +kernel) (by decide +kernel)), ⟨by decide +kernel, by decide +kernel, by decide +kernel⟩, by decide +kernel⟩
theorem is_X1_addToOpenPlace : MInst mX1_addToOpenPlace := (gw_of (i := 708) (by decide +kernel) (by decide +kernel))
theorem se_X1_addToOpenPlace : MSel mX1_addToOpenPlace := (gw_of (i := 22) (by decide +kernel) (by decide +kernel))
theorem ok_X1_addToFields : MOk mX1_addToFields 2 := ⟨(gw_of (i := 697) (by decide +kernel) (by decide +kernel)), (gw_of (i := 95) (by decide +kernel) (by decide +kernel)), ⟨by decide +kernel, by decide +kernel, by decide +kernel⟩, by decide +kernel⟩
theorem is_X1_addToFields : MInst mX1_addToFields := (gw_of (i := 696) (by decide +kernel) (by decide +kernel))
theorem se_X1_addToFields : MSel mX1_addToFields := (gw_of (i := 20) (by decide +kernel) (by decide +kernel))
theorem ok_X1_inFields : MOk mX1_inFields 1 := ⟨(gw_of (i := 705) (by decide +kernel) (by decide +kernel)), (gw_of (i := 95) (by decide +kernel) (by decide +kernel)), ⟨by decide +kernel, by decide +kernel, by decide +kernel⟩, by decide +kernel⟩
theorem is_X1_inFields : MInst mX1_inFields := (gw_of (i := 704) (by decide +kernel) (by decide +kernel))
theorem se_X1_inFields : MSel mX1_inFields := (gw_of (i := 21) (by decide +kernel) (by decide +kernel))
theorem ok_X2_init : MOk mX2_init 0 := ⟨(gw_of (i := 132) (by decide +kernel) (by decide +kernel)), (gw_of (i := 90) (by decide +kernel) (by decide +kernel)), ⟨by decide +kernel, by decide +kernel, by decide +kernel⟩, by decide +kernel⟩
theorem is_X2_init : MInst mX2_init := (gw_of (i := 131) (by decide +kernel) (by decide +kernel))
theorem ok_X2_count : MOk mX2_count 0 := ⟨(gw_of (i := 580) (by decide +kernel) (by decide +kernel)), (gw_of (i := 90) (by decide +kernel) (by decide +kernel)), ⟨by decide +kernel, by decide +kernel, by decide +kernel⟩, by decide +kernel⟩
theorem is_X2_count : MInst mX2_count := (gw_of (i := 578) (by decide +kernel) (by decide +kernel))
theorem se_X2_count : MSel mX2_count := (gw_of (i := 579) (by decide +kernel) (by decide +kernel))
theorem ok_X2_has : MOk mX2_has 1 := ⟨(gw_of (i := 572) (by decide +kernel) (by decide +kernel)), (gw_of (i := 90) (by decide +kernel) (by decide +kernel)), ⟨by decide +kernel, by decide +kernel, by decide +kernel⟩, by decide +kernel⟩
theorem is_X2_has : MInst mX2_has := (gw_of (i := 570) (by decide +kernel) (by decide +kernel))
theorem se_X2_has : MSel mX2_has := (gw_of (i := 571) (by decide +kernel) (by decide +kernel))
theorem ok_X2_lines : MOk mX2_lines 1 := ⟨(gw_of (i := 617) (by decide +kernel) (by decide +kernel)), (gw_of (i := 90) (by decide +kernel) (by decide +kernel)), ⟨by decide +kernel, by decide +kernel, by decide +kernel⟩, by decide +kernel⟩
theorem is_X2_lines : MInst mX2_lines := (gw_of (i := 615) (by decide +kernel) (by decide +kernel))
theorem se_X2_lines : MSel mX2_lines := (gw_of (i := 616) (by decide +kernel) (by decide +kernel))
theorem ok_X2_hasLine : MOk mX2_hasLine 2 := ⟨(gw_of (i := 613) (by decide +kernel) (by decide +kernel)), (gw_of (i := 90) (by decide +kernel) (by decide +kernel)), ⟨by decide +kernel, by decide +kernel, by decide +kernel⟩, by decide +kernel⟩
theorem is_X2_hasLine : MInst mX2_hasLine := (gw_of (i := 611) (by decide +kernel) (by decide +kernel))
theorem se_X2_hasLine : MSel mX2_hasLine := (gw_of (i := 612) (by decide +kernel) (by decide +kernel))
theorem ok_X2_sort : MOk mX2_sort 2 := ⟨(gw_of (i := 651) (by decide +kernel) (by decide +kernel)), (gw_of (i := 90) (by decide +kernel) (by decide +kernel)), ⟨by decide +kernel, by decide +kernel, by decide +kernel⟩, by decide +kernel⟩
theorem is_X2_sort : MInst mX2_sort := (gw_of (i := 649) (by decide +kernel) (by decide +kernel))
theorem se_X2_sort : MSel mX2_sort := (gw_of (i := 650) (by decide +kernel) (by decide +kernel))
theorem ok_X2_name : MOk mX2_name 2 := ⟨(gw_of (i := 674) (by decide +kernel) (by decide +kernel)), (gw_of (i := 90) (by decide +kernel) (by decide +kernel)), ⟨by decide +kernel, by decide +kernel, by decide +kernel⟩, by decide +kernel⟩
theorem is_X2_name : MInst mX2_name := (gw_of (i := 672) (by decide +kernel) (by decide +kernel))
theorem se_X2_name : MSel mX2_name := (gw_of (i := 673) (by decide +kernel) (by decide +kernel))
theorem ok_X2_hasOther : MOk mX2_hasOther 2 := ⟨(gw_of (i := 787) (by decide +kernel) (by decide +kernel)), (gw_of (i := 90) (by decide +kernel) (by decide +kernel)), ⟨by decide +kernel, by decide +kernel, by decide +kernel⟩, by decide +kernel⟩
theorem is_X2_hasOther : MInst mX2_hasOther := (gw_of (i := 785) (by decide +kernel) (by decide +kernel))
theorem se_X2_hasOther : MSel mX2_hasOther := (gw_of (i := 786) (by decide +kernel) (by decide +kernel))
theorem ok_X2_other : MOk mX2_other 2 := ⟨(gw_of (i := 678) (by decide +kernel) (by decide +kernel)), (gw_of (i := 90) (by decide +kernel) (by decide +kernel)), ⟨by decide +kernel, by decide +kernel, by decide +kernel⟩, by decide +kernel⟩
theorem is_X2_other : MInst mX2_other := (gw_of (i := 676) (by decide +kernel) (by decide +kernel))
theorem se_X2_other : MSel mX2_other := (gw_of (i := 677) (by decide +kernel) (by decide +kernel))
theorem ok_X2_callee : MOk mX2_callee 2 := ⟨(gw_of (i := 713) (by decide +kernel) (by decide +kernel)), (gw_of (i := 90) (by decide +kernel) (by decide +kernel)), ⟨by decide +kernel, by decide +kernel, by decide +kernel⟩, by decide +kernel⟩
theorem is_X2_callee : MInst mX2_callee := (gw_of (i := 711) (by decide +kernel) (by decide +kernel))
theorem se_X2_callee : MSel mX2_callee := (gw_of (i := 712) (by decide +kernel) (by decide +kernel))
theorem ok_X2_calledBy : MOk mX2_calledBy 1 := ⟨(gw_of (i := 771) (by decide +kernel) (by decide +kernel)), (gw_of (i := 90) (by decide +kernel) (by decide +kernel)), ⟨by decide +kernel, by decide +kernel, by decide +kernel⟩, by decide +kernel⟩
theorem is_X2_calledBy : MInst mX2_calledBy := (gw_of (i := 769) (by decide +kernel) (by decide +kernel))
theorem se_X2_calledBy : MSel mX2_calledBy := (gw_of (i := 770) (by decide +kernel) (by decide +kernel))
theorem ok_X2_becomeNone : MOk mX2_becomeNone 0 := ⟨(gw_of (i := 509) (by decide +kernel) (by decide +kernel)), (gw_of (i := 90) (by decide +kernel) (by decide +kernel)), ⟨by decide +kernel, by decide +kernel, by decide +kernel⟩, by decide +kernel⟩
theorem is_X2_becomeNone : MInst mX2_becomeNone := (gw_of (i := 507) (by decide +kernel) (by decide +kernel))
theorem se_X2_becomeNone : MSel mX2_becomeNone := (gw_of (i := 508) (by decide +kernel) (by decide +kernel))
theorem ok_X2_addMethod : MOk mX2_addMethod 0 := ⟨(gw_of (i := 524) (by decide +kernel) (by decide +kernel)), (gw_of (i := 90) (by decide +kernel) (by decide +kernel)), ⟨by decide +kernel, by decide +kernel, by decide +kernel⟩, by decide +kernel⟩
theorem is_X2_addMethod : MInst mX2_addMethod := (gw_of (i := 522) (by decide +kernel) (by decide +kernel))
theorem se_X2_addMethod : MSel mX2_addMethod := (gw_of (i := 523) (by decide +kernel) (by decide +kernel))
theorem ok_X2_addLine : MOk mX2_addLine 4 := ⟨(gw_of (i := 568) (by decide +kernel) (by decide +kernel)), (gw_of (i := 90) (by decide +kernel) (by decide +kernel)), ⟨by decide +kernel, by decide +kernel, by decide +kernel⟩, by decide +kernel⟩
theorem is_X2_addLine : MInst mX2_addLine := (gw_of (i := 566) (by decide +kernel) (by decide +kernel))
theorem se_X2_addLine : MSel mX2_addLine := (gw_of (i := 567) (by decide +kernel) (by decide +kernel))
theorem ok_X2_removeLine : MOk mX2_removeLine 2 := ⟨(gw_of (i := 621) (by decide +kernel) (by decide +kernel)), (gw_of (i := 90) (by decide +kernel) (by decide +kernel)), ⟨by decide +kernel, by decide +kernel, by decide +kernel⟩, by decide +kernel⟩
theorem is_X2_removeLine : MInst mX2_removeLine := (gw_of (i := 619) (by decide +kernel) (by decide +kernel))
theorem se_X2_removeLine : MSel mX2_removeLine := (gw_of (i := 620) (by decide +kernel) (by decide +kernel))
theorem ok_X2_swapWithNext : MOk mX2_swapWithNext 2 := ⟨(gw_of (i := 631) (by decide +kernel) (by decide +kernel)), (gw_of (i := 90) (by decide +kernel) (by decide +kernel)), ⟨by decide +kernel, by decide +kernel, by decide +kernel⟩, by decide +kernel⟩
theorem is_X2_swapWithNext : MInst mX2_swapWithNext := (gw_of (i := 629) (by decide +kernel) (by decide +kernel))
theorem se_X2_swapWithNext : MSel mX2_swapWithNext := (gw_of (i := 630) (by decide +kernel) (by decide +kernel))
theorem ok_X2_becomeLike : MOk mX2_becomeLike 1 := ⟨(gw_of (i := 596) (by decide +kernel) (by decide +kernel)), (gw_of (i := 90) (by decide +kernel) (by decide +kernel)), ⟨by decide +kernel, by decide +kernel, by decide +kernel⟩, by decide +kernel⟩
theorem is_X2_becomeLike : MInst mX2_becomeLike := (gw_of (i := 594) (by decide +kernel) (by decide +kernel))
theorem se_X2_becomeLike : MSel mX2_becomeLike := (gw_of (i := 595) (by decide +kernel) (by decide +kernel))
theorem ok_X2_code : MOk mX2_code 2 := ⟨(gw_of (i := 655) (by decide +kernel) (by decide +kernel)), (gw_of (i := 90) (by decide +kernel) (by decide +kernel)), ⟨by decide +kernel, by decide +kernel, by decide +kernel⟩, by decide +kernel⟩
theorem is_X2_code : MInst mX2_code := (gw_of (i := 654) (by decide +kernel) (by decide +kernel))
theorem se_X2_code : MSel mX2_code := (gw_of (i := 16) (by decide +kernel) (by decide +kernel))
theorem ok_X3_init : MOk mX3_init 2 := ⟨(gw_of (i := 149) (by decide +kernel) (by decide +kernel)), (gw_of (i := 91) (by decide +kernel) (by decide +kernel)), ⟨by decide +kernel, by decide +kernel, by decide +kernel⟩, by decide +kernel⟩
theorem is_X3_init : MInst mX3_init := (gw_of (i := 148) (by decide +kernel) (by decide +kernel))
theorem ok_X3_readAll : MOk mX3_readAll 0 := ⟨(gw_of (i := 429) (by decide +kernel) (by decide +kernel)), (gw_of (i := 91) (by decide +kernel) (by decide +kernel)), ⟨by decide +kernel, by decide +kernel, by decide +kernel⟩, by decide +kernel⟩
theorem is_X3_readAll : MInst mX3_readAll := (gw_of (i := 427) (by decide +kernel) (by decide +kernel))
theorem se_X3_readAll : MSel mX3_readAll := (gw_of (i := 428) (by decide +kernel) (by decide +kernel))
theorem ok_X3_firstMissingCall : MOk mX3_firstMissingCall 0 := ⟨(gw_of (i := 576) (by decide +kernel) (by decide +kernel)), (gw_of (i := 91) (by decide +kernel) (by decide +kernel)), ⟨by decide +kernel, by decide +kernel, by decide +kernel⟩, by decide +kernel⟩
theorem is_X3_firstMissingCall : MInst mX3_firstMissingCall := (gw_of (i := 575) (by decide +kernel) (by decide +kernel))
theorem se_X3_firstMissingCall : MSel mX3_firstMissingCall := (gw_of (i := 11) (by decide +kernel) (by decide +kernel))
theorem ok_X3_readMethod : MOk mX3_readMethod 1 := ⟨(gw_of (i := 520) (by decide +kernel) (by decide +kernel)), (gw_of (i := 91) (by decide +kernel) (by decide +kernel)), ⟨by decide +kernel, by decide +kernel, by decide +kernel⟩, by decide +kernel⟩
theorem is_X3_readMethod : MInst mX3_readMethod := (gw_of (i := 519) (by decide +kernel) (by decide +kernel))
theorem se_X3_readMethod : MSel mX3_readMethod := (gw_of (i := 3) (by decide +kernel) (by decide +kernel))
theorem ok_X3_readLine : MOk mX3_readLine 1 := ⟨(gw_of (i := 544) (by decide +kernel) (by decide +kernel)), (gw_of (i := 91) (by decide +kernel) (by decide +kernel)), ⟨by decide +kernel, by decide +kernel, by decide +kernel⟩, by decide +kernel⟩
theorem is_X3_readLine : MInst mX3_readLine := (gw_of (i := 543) (by decide +kernel) (by decide +kernel))
theorem se_X3_readLine : MSel mX3_readLine := (gw_of (i := 6) (by decide +kernel) (by decide +kernel))
theorem ok_X3_readPut : MOk mX3_readPut 0 := ⟨(gw_of (i := 555) (by decide +kernel) (by decide +kernel)), (gw_of (i := 91) (by decide +kernel) (by decide +kernel)), ⟨by decide +kernel, by decide +kernel, by decide +kernel⟩, by decide +kernel⟩
theorem is_X3_readPut : MInst mX3_readPut := (gw_of (i := 554) (by decide +kernel) (by decide +kernel))
theorem se_X3_readPut : MSel mX3_readPut := (gw_of (i := 8) (by decide +kernel) (by decide +kernel))
theorem ok_X3_readValue : MOk mX3_readValue 1 := ⟨(gw_of (i := 559) (by decide +kernel) (by decide +kernel)), (gw_of (i := 91) (by decide +kernel) (by decide +kernel)), ⟨by decide +kernel, by decide +kernel, by decide +kernel⟩, by decide +kernel⟩
theorem is_X3_readValue : MInst mX3_readValue := (gw_of (i := 558) (by decide +kernel) (by decide +kernel))
theorem se_X3_readValue : MSel mX3_readValue := (gw_of (i := 9) (by decide +kernel) (by decide +kernel))
theorem ok_X3_noteCall : MOk mX3_noteCall 0 := ⟨(gw_of (i := 563) (by decide +kernel) (by decide +kernel)), (gw_of (i := 91) (by decide +kernel) (by decide +kernel)), ⟨by decide +kernel, by decide +kernel, by decide +kernel⟩, by decide +kernel⟩
theorem is_X3_noteCall : MInst mX3_noteCall := (gw_of (i := 562) (by decide +kernel) (by decide +kernel))
theorem se_X3_noteCall : MSel mX3_noteCall := (gw_of (i := 10) (by decide +kernel) (by decide +kernel))
theorem ok_X3_take : MOk mX3_take 1 := ⟨(gw_of (i := 528) (by decide +kernel) (by decide +kernel)), (gw_of (i := 91) (by decide +kernel) (by decide +kernel)), ⟨by decide +kernel, by decide +kernel, by decide +kernel⟩, by decide +kernel⟩
theorem is_X3_take : MInst mX3_take := (gw_of (i := 527) (by decide +kernel) (by decide +kernel))
theorem se_X3_take : MSel mX3_take := (gw_of (i := 4) (by decide +kernel) (by decide +kernel))
theorem ok_X3_refuse : MOk mX3_refuse 0 := ⟨(gw_of (i := 536) (by decide +kernel) (by decide +kernel)), (gw_of (i := 91) (by decide +kernel) (by decide +kernel)), ⟨by decide +kernel, by decide +kernel, by decide +kernel⟩, by decide +kernel⟩
theorem is_X3_refuse : MInst mX3_refuse := (gw_of (i := 535) (by decide +kernel) (by decide +kernel))
theorem se_X3_refuse : MSel mX3_refuse := (gw_of (i := 5) (by decide +kernel) (by decide +kernel))
theorem ok_X3_takeName : MOk mX3_takeName 0 := ⟨(gw_of (i := 548) (by decide +kernel) (by decide +kernel)), (gw_of (i := 91) (by decide +kernel) (by decide +kernel)), ⟨by decide +kernel, by decide +kernel, by decide +kernel⟩, by decide +kernel⟩
theorem is_X3_takeName : MInst mX3_takeName := (gw_of (i := 547) (by decide +kernel) (by decide +kernel))
theorem se_X3_takeName : MSel mX3_takeName := (gw_of (i := 7) (by decide +kernel) (by decide +kernel))
theorem ok_X3_nameOf : MOk mX3_nameOf 1 := ⟨(gw_of (i := 551) (by decide +kernel) (by decide +kernel)), (gw_of (i := 91) (by decide +kernel) (by decide +kernel)), ⟨by decide +kernel, by decide +kernel, by decide +kernel⟩, by decide +kernel⟩
theorem st_X3_nameOf : MStat mX3_nameOf := (gw_of (i := 550) (by decide +kernel) (by decide +kernel))
theorem ok_X4_init : MOk mX4_init 0 := ⟨(gw_of (i := 221) (by decide +kernel) (by decide +kernel)), (gw_of (i := 94) (by decide +kernel) (by decide +kernel)), ⟨by decide +kernel, by decide +kernel, by decide +kernel⟩, by decide +kernel⟩
theorem is_X4_init : MInst mX4_init := (gw_of (i := 220) (by decide +kernel) (by decide +kernel))
theorem ok_X4_count : MOk mX4_count 0 := ⟨(gw_of (i := 701) (by decide +kernel) (by decide +kernel)), (gw_of (i := 94) (by decide +kernel) (by decide +kernel)), ⟨by decide +kernel, by decide +kernel, by decide +kernel⟩, by decide +kernel⟩
theorem is_X4_count : MInst mX4_count := (gw_of (i := 699) (by decide +kernel) (by decide +kernel))
theorem se_X4_count : MSel mX4_count := (gw_of (i := 700) (by decide +kernel) (by decide +kernel))
theorem ok_X4_methodOf : MOk mX4_methodOf 1 := ⟨(gw_of (i := 736) (by decide +kernel) (by decide +kernel)), (gw_of (i := 94) (by decide +kernel) (by decide +kernel)), ⟨by decide +kernel, by decide +kernel, by decide +kernel⟩, by decide +kernel⟩
theorem is_X4_methodOf : MInst mX4_methodOf := (gw_of (i := 734) (by decide +kernel) (by decide +kernel))
theorem se_X4_methodOf : MSel mX4_methodOf := (gw_of (i := 735) (by decide +kernel) (by decide +kernel))
theorem ok_X4_lineOf : MOk mX4_lineOf 1 := ⟨(gw_of (i := 804) (by decide +kernel) (by decide +kernel)), (gw_of (i := 94) (by decide +kernel) (by decide +kernel)), ⟨by decide +kernel, by decide +kernel, by decide +kernel⟩, by decide +kernel⟩
theorem is_X4_lineOf : MInst mX4_lineOf := (gw_of (i := 802) (by decide +kernel) (by decide +kernel))
theorem se_X4_lineOf : MSel mX4_lineOf := (gw_of (i := 803) (by decide +kernel) (by decide +kernel))
theorem ok_X4_inMethod : MOk mX4_inMethod 1 := ⟨(gw_of (i := 758) (by decide +kernel) (by decide +kernel)), (gw_of (i := 94) (by decide +kernel) (by decide +kernel)), ⟨by decide +kernel, by decide +kernel, by decide +kernel⟩, by decide +kernel⟩
theorem is_X4_inMethod : MInst mX4_inMethod := (gw_of (i := 756) (by decide +kernel) (by decide +kernel))
theorem se_X4_inMethod : MSel mX4_inMethod := (gw_of (i := 757) (by decide +kernel) (by decide +kernel))
theorem ok_X4_ofLine : MOk mX4_ofLine 2 := ⟨(gw_of (i := 688) (by decide +kernel) (by decide +kernel)), (gw_of (i := 94) (by decide +kernel) (by decide +kernel)), ⟨by decide +kernel, by decide +kernel, by decide +kernel⟩, by decide +kernel⟩
theorem is_X4_ofLine : MInst mX4_ofLine := (gw_of (i := 686) (by decide +kernel) (by decide +kernel))
theorem se_X4_ofLine : MSel mX4_ofLine := (gw_of (i := 687) (by decide +kernel) (by decide +kernel))
theorem ok_X4_number : MOk mX4_number 1 := ⟨(gw_of (i := 644) (by decide +kernel) (by decide +kernel)), (gw_of (i := 94) (by decide +kernel) (by decide +kernel)), ⟨by decide +kernel, by decide +kernel, by decide +kernel⟩, by decide +kernel⟩
theorem is_X4_number : MInst mX4_number := (gw_of (i := 642) (by decide +kernel) (by decide +kernel))
theorem se_X4_number : MSel mX4_number := (gw_of (i := 643) (by decide +kernel) (by decide +kernel))
theorem ok_X4_add : MOk mX4_add 2 := ⟨(gw_of (i := 659) (by decide +kernel) (by decide +kernel)), (gw_of (i := 94) (by decide +kernel) (by decide +kernel)), ⟨by decide +kernel, by decide +kernel, by decide +kernel⟩, by decide +kernel⟩
theorem is_X4_add : MInst mX4_add := (gw_of (i := 658) (by decide +kernel) (by decide +kernel))
theorem se_X4_add : MSel mX4_add := (gw_of (i := 17) (by decide +kernel) (by decide +kernel))
theorem ok_X5_init : MOk mX5_init 0 := ⟨(gw_of (i := 205) (by decide +kernel) (by decide +kernel)), (gw_of (i := 93) (by decide +kernel) (by decide +kernel)), ⟨by decide +kernel, by decide +kernel, by decide +kernel⟩, by decide +kernel⟩
theorem is_X5_init : MInst mX5_init := (gw_of (i := 204) (by decide +kernel) (by decide +kernel))
theorem ok_X5_count : MOk mX5_count 0 := ⟨(gw_of (i := 988) (by decide +kernel) (by decide +kernel)), (gw_of (i := 93) (by decide +kernel) (by decide +kernel)), ⟨by decide +kernel, by decide +kernel, by decide +kernel⟩, by decide +kernel⟩
theorem is_X5_count : MInst mX5_count := (gw_of (i := 986) (by decide +kernel) (by decide +kernel))
theorem se_X5_count : MSel mX5_count := (gw_of (i := 987) (by decide +kernel) (by decide +kernel))
theorem ok_X5_keep : MOk mX5_keep 1 := ⟨(gw_of (i := 588) (by decide +kernel) (by decide +kernel)), (gw_of (i := 93) (by decide +kernel) (by decide +kernel)), ⟨by decide +kernel, by decide +kernel, by decide +kernel⟩, by decide +kernel⟩
theorem is_X5_keep : MInst mX5_keep := (gw_of (i := 586) (by decide +kernel) (by decide +kernel))
theorem se_X5_keep : MSel mX5_keep := (gw_of (i := 587) (by decide +kernel) (by decide +kernel))
theorem ok_X5_giveBack : MOk mX5_giveBack 1 := ⟨(gw_of (i := 996) (by decide +kernel) (by decide +kernel)), (gw_of (i := 93) (by decide +kernel) (by decide +kernel)), ⟨by decide +kernel, by decide +kernel, by decide +kernel⟩, by decide +kernel⟩
theorem is_X5_giveBack : MInst mX5_giveBack := (gw_of (i := 994) (by decide +kernel) (by decide +kernel))
theorem se_X5_giveBack : MSel mX5_giveBack := (gw_of (i := 995) (by decide +kernel) (by decide +kernel))
theorem ok_X5_loseOldest : MOk mX5_loseOldest 0 := ⟨(gw_of (i := 592) (by decide +kernel) (by decide +kernel)), (gw_of (i := 93) (by decide +kernel) (by decide +kernel)), ⟨by decide +kernel, by decide +kernel, by decide +kernel⟩, by decide +kernel⟩
theorem is_X5_loseOldest : MInst mX5_loseOldest := (gw_of (i := 591) (by decide +kernel) (by decide +kernel))
theorem se_X5_loseOldest : MSel mX5_loseOldest := (gw_of (i := 13) (by decide +kernel) (by decide +kernel))
theorem ok_X6_init : MOk mX6_init 0 := ⟨(gw_of (i := 118) (by decide +kernel) (by decide +kernel)), (gw_of (i := 89) (by decide +kernel) (by decide +kernel)), ⟨by decide +kernel, by decide +kernel, by decide +kernel⟩, by decide +kernel⟩
theorem is_X6_init : MInst mX6_init := (gw_of (i := 117) (by decide +kernel) (by decide +kernel))
theorem ok_X6_length : MOk mX6_length 0 := ⟨(gw_of (i := 413) (by decide +kernel) (by decide +kernel)), (gw_of (i := 89) (by decide +kernel) (by decide +kernel)), ⟨by decide +kernel, by decide +kernel, by decide +kernel⟩, by decide +kernel⟩
theorem is_X6_length : MInst mX6_length := (gw_of (i := 411) (by decide +kernel) (by decide +kernel))
theorem se_X6_length : MSel mX6_length := (gw_of (i := 412) (by decide +kernel) (by decide +kernel))
theorem ok_X6_isFull : MOk mX6_isFull 0 := ⟨(gw_of (i := 401) (by decide +kernel) (by decide +kernel)), (gw_of (i := 89) (by decide +kernel) (by decide +kernel)), ⟨by decide +kernel, by decide +kernel, by decide +kernel⟩, by decide +kernel⟩
theorem is_X6_isFull : MInst mX6_isFull := (gw_of (i := 399) (by decide +kernel) (by decide +kernel))
theorem se_X6_isFull : MSel mX6_isFull := (gw_of (i := 400) (by decide +kernel) (by decide +kernel))
theorem ok_X6_append : MOk mX6_append 1 := ⟨(gw_of (i := 409) (by decide +kernel) (by decide +kernel)), (gw_of (i := 89) (by decide +kernel) (by decide +kernel)), ⟨by decide +kernel, by decide +kernel, by decide +kernel⟩, by decide +kernel⟩
theorem is_X6_append : MInst mX6_append := (gw_of (i := 407) (by decide +kernel) (by decide +kernel))
theorem se_X6_append : MSel mX6_append := (gw_of (i := 408) (by decide +kernel) (by decide +kernel))
theorem ok_X6_empty : MOk mX6_empty 0 := ⟨(gw_of (i := 421) (by decide +kernel) (by decide +kernel)), (gw_of (i := 89) (by decide +kernel) (by decide +kernel)), ⟨by decide +kernel, by decide +kernel, by decide +kernel⟩, by decide +kernel⟩
theorem is_X6_empty : MInst mX6_empty := (gw_of (i := 419) (by decide +kernel) (by decide +kernel))
theorem se_X6_empty : MSel mX6_empty := (gw_of (i := 420) (by decide +kernel) (by decide +kernel))
theorem ok_X6_at : MOk mX6_at 1 := ⟨(gw_of (i := 441) (by decide +kernel) (by decide +kernel)), (gw_of (i := 89) (by decide +kernel) (by decide +kernel)), ⟨by decide +kernel, by decide +kernel, by decide +kernel⟩, by decide +kernel⟩
theorem is_X6_at : MInst mX6_at := (gw_of (i := 439) (by decide +kernel) (by decide +kernel))
theorem se_X6_at : MSel mX6_at := (gw_of (i := 440) (by decide +kernel) (by decide +kernel))
theorem ok_X7_init : MOk mX7_init 0 := ⟨(gw_of (i := 155) (by decide +kernel) (by decide +kernel)), (gw_of (i := 92) (by decide +kernel) (by decide +kernel)), ⟨by decide +kernel, by decide +kernel, by decide +kernel⟩, by decide +kernel⟩
theorem is_X7_init : MInst mX7_init := (gw_of (i := 154) (by decide +kernel) (by decide +kernel))
theorem ok_X7_ahead : MOk mX7_ahead 0 := ⟨(gw_of (i := 516) (by decide +kernel) (by decide +kernel)), (gw_of (i := 92) (by decide +kernel) (by decide +kernel)), ⟨by decide +kernel, by decide +kernel, by decide +kernel⟩, by decide +kernel⟩
theorem is_X7_ahead : MInst mX7_ahead := (gw_of (i := 514) (by decide +kernel) (by decide +kernel))
theorem se_X7_ahead : MSel mX7_ahead := (gw_of (i := 515) (by decide +kernel) (by decide +kernel))
theorem ok_X7_place : MOk mX7_place 0 := ⟨(gw_of (i := 540) (by decide +kernel) (by decide +kernel)), (gw_of (i := 92) (by decide +kernel) (by decide +kernel)), ⟨by decide +kernel, by decide +kernel, by decide +kernel⟩, by decide +kernel⟩
theorem is_X7_place : MInst mX7_place := (gw_of (i := 538) (by decide +kernel) (by decide +kernel))
theorem se_X7_place : MSel mX7_place := (gw_of (i := 539) (by decide +kernel) (by decide +kernel))
theorem ok_X7_step : MOk mX7_step 0 := ⟨(gw_of (i := 532) (by decide +kernel) (by decide +kernel)), (gw_of (i := 92) (by decide +kernel) (by decide +kernel)), ⟨by decide +kernel, by decide +kernel, by decide +kernel⟩, by decide +kernel⟩
theorem is_X7_step : MInst mX7_step := (gw_of (i := 530) (by decide +kernel) (by decide +kernel))
theorem se_X7_step : MSel mX7_step := (gw_of (i := 531) (by decide +kernel) (by decide +kernel))
theorem ok_X7_cut : MOk mX7_cut 1 := ⟨(gw_of (i := 433) (by decide +kernel) (by decide +kernel)), (gw_of (i := 92) (by decide +kernel) (by decide +kernel)), ⟨by decide +kernel, by decide +kernel, by decide +kernel⟩, by decide +kernel⟩
theorem is_X7_cut : MInst mX7_cut := (gw_of (i := 431) (by decide +kernel) (by decide +kernel))
theorem se_X7_cut : MSel mX7_cut := (gw_of (i := 432) (by decide +kernel) (by decide +kernel))
theorem ok_X7_add : MOk mX7_add 2 := ⟨(gw_of (i := 505) (by decide +kernel) (by decide +kernel)), (gw_of (i := 92) (by decide +kernel) (by decide +kernel)), ⟨by decide +kernel, by decide +kernel, by decide +kernel⟩, by decide +kernel⟩
theorem is_X7_add : MInst mX7_add := (gw_of (i := 504) (by decide +kernel) (by decide +kernel))
theorem se_X7_add : MSel mX7_add := (gw_of (i := 2) (by decide +kernel) (by decide +kernel))
theorem ok_X7_lettersFrom : MOk mX7_lettersFrom 2 := ⟨(gw_of (i := 437) (by decide +kernel) (by decide +kernel)), (gw_of (i := 92) (by decide +kernel) (by decide +kernel)), ⟨by decide +kernel, by decide +kernel, by decide +kernel⟩, by decide +kernel⟩
theorem st_X7_lettersFrom : MStat mX7_lettersFrom := (gw_of (i := 436) (by decide +kernel) (by decide +kernel))
theorem ok_X7_wordKind : MOk mX7_wordKind 3 := ⟨(gw_of (i := 448) (by decide +kernel) (by decide +kernel)), (gw_of (i := 92) (by decide +kernel) (by decide +kernel)), ⟨by decide +kernel, by decide +kernel, by decide +kernel⟩, by decide +kernel⟩
theorem st_X7_wordKind : MStat mX7_wordKind := (gw_of (i := 447) (by decide +kernel) (by decide +kernel))
theorem ok_X7_spells : MOk mX7_spells 4 := ⟨(gw_of (i := 452) (by decide +kernel) (by decide +kernel)), (gw_of (i := 92) (by decide +kernel) (by decide +kernel)), ⟨by decide +kernel, by decide +kernel, by decide +kernel⟩, by decide +kernel⟩
theorem st_X7_spells : MStat mX7_spells := (gw_of (i := 451) (by decide +kernel) (by decide +kernel))
theorem ok_X8_init : MOk mX8_init 3 := ⟨(gw_of (i := 287) (by decide +kernel) (by decide +kernel)), (gw_of (i := 97) (by decide +kernel) (by decide +kernel)), ⟨by decide +kernel, by decide +kernel, by decide +kernel⟩, by decide +kernel⟩
theorem is_X8_init : MInst mX8_init := (gw_of (i := 286) (by decide +kernel) (by decide +kernel))
theorem ok_X8_failed : MOk mX8_failed 0 := ⟨(gw_of (i := 932) (by decide +kernel) (by decide +kernel)), (gw_of (i := 97) (by decide +kernel) (by decide +kernel)), ⟨by decide +kernel, by decide +kernel, by decide +kernel⟩, by decide +kernel⟩
theorem is_X8_failed : MInst mX8_failed := (gw_of (i := 930) (by decide +kernel) (by decide +kernel))
theorem se_X8_failed : MSel mX8_failed := (gw_of (i := 931) (by decide +kernel) (by decide +kernel))
theorem ok_X8_made : MOk mX8_made 0 := ⟨(gw_of (i := 936) (by decide +kernel) (by decide +kernel)), (gw_of (i := 97) (by decide +kernel) (by decide +kernel)), ⟨by decide +kernel, by decide +kernel, by decide +kernel⟩, by decide +kernel⟩
theorem is_X8_made : MInst mX8_made := (gw_of (i := 934) (by decide +kernel) (by decide +kernel))
theorem se_X8_made : MSel mX8_made := (gw_of (i := 935) (by decide +kernel) (by decide +kernel))
theorem ok_X8_locks : MOk mX8_locks 0 := ⟨(gw_of (i := 940) (by decide +kernel) (by decide +kernel)), (gw_of (i := 97) (by decide +kernel) (by decide +kernel)), ⟨by decide +kernel, by decide +kernel, by decide +kernel⟩, by decide +kernel⟩
theorem is_X8_locks : MInst mX8_locks := (gw_of (i := 938) (by decide +kernel) (by decide +kernel))
theorem se_X8_locks : MSel mX8_locks := (gw_of (i := 939) (by decide +kernel) (by decide +kernel))
theorem ok_X8_idleLocks : MOk mX8_idleLocks 0 := ⟨(gw_of (i := 944) (by decide +kernel) (by decide +kernel)), (gw_of (i := 97) (by decide +kernel) (by decide +kernel)), ⟨by decide +kernel, by decide +kernel, by decide +kernel⟩, by decide +kernel⟩
theorem is_X8_idleLocks : MInst mX8_idleLocks := (gw_of (i := 942) (by decide +kernel) (by decide +kernel))
theorem se_X8_idleLocks : MSel mX8_idleLocks := (gw_of (i := 943) (by decide +kernel) (by decide +kernel))
theorem ok_X8_calls : MOk mX8_calls 0 := ⟨(gw_of (i := 948) (by decide +kernel) (by decide +kernel)), (gw_of (i := 97) (by decide +kernel) (by decide +kernel)), ⟨by decide +kernel, by decide +kernel, by decide +kernel⟩, by decide +kernel⟩
theorem is_X8_calls : MInst mX8_calls := (gw_of (i := 946) (by decide +kernel) (by decide +kernel))
theorem se_X8_calls : MSel mX8_calls := (gw_of (i := 947) (by decide +kernel) (by decide +kernel))
theorem ok_X8_leaks : MOk mX8_leaks 0 := ⟨(gw_of (i := 952) (by decide +kernel) (by decide +kernel)), (gw_of (i := 97) (by decide +kernel) (by decide +kernel)), ⟨by decide +kernel, by decide +kernel, by decide +kernel⟩, by decide +kernel⟩
theorem is_X8_leaks : MInst mX8_leaks := (gw_of (i := 950) (by decide +kernel) (by decide +kernel))
theorem se_X8_leaks : MSel mX8_leaks := (gw_of (i := 951) (by decide +kernel) (by decide +kernel))
theorem ok_X8_madeOf : MOk mX8_madeOf 1 := ⟨(gw_of (i := 964) (by decide +kernel) (by decide +kernel)), (gw_of (i := 97) (by decide +kernel) (by decide +kernel)), ⟨by decide +kernel, by decide +kernel, by decide +kernel⟩, by decide +kernel⟩
theorem is_X8_madeOf : MInst mX8_madeOf := (gw_of (i := 962) (by decide +kernel) (by decide +kernel))
theorem se_X8_madeOf : MSel mX8_madeOf := (gw_of (i := 963) (by decide +kernel) (by decide +kernel))
theorem ok_X8_leaksOf : MOk mX8_leaksOf 1 := ⟨(gw_of (i := 968) (by decide +kernel) (by decide +kernel)), (gw_of (i := 97) (by decide +kernel) (by decide +kernel)), ⟨by decide +kernel, by decide +kernel, by decide +kernel⟩, by decide +kernel⟩
theorem is_X8_leaksOf : MInst mX8_leaksOf := (gw_of (i := 966) (by decide +kernel) (by decide +kernel))
theorem se_X8_leaksOf : MSel mX8_leaksOf := (gw_of (i := 967) (by decide +kernel) (by decide +kernel))
theorem ok_X8_locksOf : MOk mX8_locksOf 1 := ⟨(gw_of (i := 972) (by decide +kernel) (by decide +kernel)), (gw_of (i := 97) (by decide +kernel) (by decide +kernel)), ⟨by decide +kernel, by decide +kernel, by decide +kernel⟩, by decide +kernel⟩
theorem is_X8_locksOf : MInst mX8_locksOf := (gw_of (i := 970) (by decide +kernel) (by decide +kernel))
theorem se_X8_locksOf : MSel mX8_locksOf := (gw_of (i := 971) (by decide +kernel) (by decide +kernel))
theorem ok_X8_siteInOpenPlace : MOk mX8_siteInOpenPlace 0 := ⟨(gw_of (i := 980) (by decide +kernel) (by decide +kernel)), (gw_of (i := 97) (by decide +kernel) (by decide +kernel)), ⟨by decide +kernel, by decide +kernel, by decide +kernel⟩, by decide +kernel⟩
theorem is_X8_siteInOpenPlace : MInst mX8_siteInOpenPlace := (gw_of (i := 978) (by decide +kernel) (by decide +kernel))
theorem se_X8_siteInOpenPlace : MSel mX8_siteInOpenPlace := (gw_of (i := 979) (by decide +kernel) (by decide +kernel))
theorem ok_X8_start : MOk mX8_start 0 := ⟨(gw_of (i := 847) (by decide +kernel) (by decide +kernel)), (gw_of (i := 97) (by decide +kernel) (by decide +kernel)), ⟨by decide +kernel, by decide +kernel, by decide +kernel⟩, by decide +kernel⟩
theorem is_X8_start : MInst mX8_start := (gw_of (i := 845) (by decide +kernel) (by decide +kernel))
theorem se_X8_start : MSel mX8_start := (gw_of (i := 846) (by decide +kernel) (by decide +kernel))
theorem ok_X8_callMethod : MOk mX8_callMethod 2 := ⟨(gw_of (i := 853) (by decide +kernel) (by decide +kernel)), (gw_of (i := 97) (by decide +kernel) (by decide +kernel)), ⟨by decide +kernel, by decide +kernel, by decide +kernel⟩, by decide +kernel⟩
theorem is_X8_callMethod : MInst mX8_callMethod := (gw_of (i := 852) (by decide +kernel) (by decide +kernel))
theorem se_X8_callMethod : MSel mX8_callMethod := (gw_of (i := 30) (by decide +kernel) (by decide +kernel))
theorem ok_X8_doLine : MOk mX8_doLine 3 := ⟨(gw_of (i := 863) (by decide +kernel) (by decide +kernel)), (gw_of (i := 97) (by decide +kernel) (by decide +kernel)), ⟨by decide +kernel, by decide +kernel, by decide +kernel⟩, by decide +kernel⟩
theorem is_X8_doLine : MInst mX8_doLine := (gw_of (i := 862) (by decide +kernel) (by decide +kernel))
theorem se_X8_doLine : MSel mX8_doLine := (gw_of (i := 32) (by decide +kernel) (by decide +kernel))
theorem ok_X8_callFrom : MOk mX8_callFrom 3 := ⟨(gw_of (i := 914) (by decide +kernel) (by decide +kernel)), (gw_of (i := 97) (by decide +kernel) (by decide +kernel)), ⟨by decide +kernel, by decide +kernel, by decide +kernel⟩, by decide +kernel⟩
theorem is_X8_callFrom : MInst mX8_callFrom := (gw_of (i := 913) (by decide +kernel) (by decide +kernel))
theorem se_X8_callFrom : MSel mX8_callFrom := (gw_of (i := 40) (by decide +kernel) (by decide +kernel))
theorem ok_X8_newThing : MOk mX8_newThing 2 := ⟨(gw_of (i := 875) (by decide +kernel) (by decide +kernel)), (gw_of (i := 97) (by decide +kernel) (by decide +kernel)), ⟨by decide +kernel, by decide +kernel, by decide +kernel⟩, by decide +kernel⟩
theorem is_X8_newThing : MInst mX8_newThing := (gw_of (i := 874) (by decide +kernel) (by decide +kernel))
theorem se_X8_newThing : MSel mX8_newThing := (gw_of (i := 34) (by decide +kernel) (by decide +kernel))
theorem ok_X8_makeMoreRoom : MOk mX8_makeMoreRoom 0 := ⟨(gw_of (i := 879) (by decide +kernel) (by decide +kernel)), (gw_of (i := 97) (by decide +kernel) (by decide +kernel)), ⟨by decide +kernel, by decide +kernel, by decide +kernel⟩, by decide +kernel⟩
theorem is_X8_makeMoreRoom : MInst mX8_makeMoreRoom := (gw_of (i := 878) (by decide +kernel) (by decide +kernel))
theorem se_X8_makeMoreRoom : MSel mX8_makeMoreRoom := (gw_of (i := 35) (by decide +kernel) (by decide +kernel))
theorem ok_X8_putIntoField : MOk mX8_putIntoField 2 := ⟨(gw_of (i := 897) (by decide +kernel) (by decide +kernel)), (gw_of (i := 97) (by decide +kernel) (by decide +kernel)), ⟨by decide +kernel, by decide +kernel, by decide +kernel⟩, by decide +kernel⟩
theorem is_X8_putIntoField : MInst mX8_putIntoField := (gw_of (i := 896) (by decide +kernel) (by decide +kernel))
theorem se_X8_putIntoField : MSel mX8_putIntoField := (gw_of (i := 36) (by decide +kernel) (by decide +kernel))
theorem ok_X8_takeFromField : MOk mX8_takeFromField 1 := ⟨(gw_of (i := 905) (by decide +kernel) (by decide +kernel)), (gw_of (i := 97) (by decide +kernel) (by decide +kernel)), ⟨by decide +kernel, by decide +kernel, by decide +kernel⟩, by decide +kernel⟩
theorem is_X8_takeFromField : MInst mX8_takeFromField := (gw_of (i := 904) (by decide +kernel) (by decide +kernel))
theorem se_X8_takeFromField : MSel mX8_takeFromField := (gw_of (i := 38) (by decide +kernel) (by decide +kernel))
theorem ok_X8_lock : MOk mX8_lock 2 := ⟨(gw_of (i := 910) (by decide +kernel) (by decide +kernel)), (gw_of (i := 97) (by decide +kernel) (by decide +kernel)), ⟨by decide +kernel, by decide +kernel, by decide +kernel⟩, by decide +kernel⟩
theorem is_X8_lock : MInst mX8_lock := (gw_of (i := 909) (by decide +kernel) (by decide +kernel))
theorem se_X8_lock : MSel mX8_lock := (gw_of (i := 39) (by decide +kernel) (by decide +kernel))
theorem ok_X8_findLeaks : MOk mX8_findLeaks 4 := ⟨(gw_of (i := 919) (by decide +kernel) (by decide +kernel)), (gw_of (i := 97) (by decide +kernel) (by decide +kernel)), ⟨by decide +kernel, by decide +kernel, by decide +kernel⟩, by decide +kernel⟩
theorem is_X8_findLeaks : MInst mX8_findLeaks := (gw_of (i := 918) (by decide +kernel) (by decide +kernel))
theorem se_X8_findLeaks : MSel mX8_findLeaks := (gw_of (i := 41) (by decide +kernel) (by decide +kernel))
theorem ok_X8_followFrom : MOk mX8_followFrom 3 := ⟨(gw_of (i := 924) (by decide +kernel) (by decide +kernel)), (gw_of (i := 97) (by decide +kernel) (by decide +kernel)), ⟨by decide +kernel, by decide +kernel, by decide +kernel⟩, by decide +kernel⟩
theorem is_X8_followFrom : MInst mX8_followFrom := (gw_of (i := 923) (by decide +kernel) (by decide +kernel))
theorem se_X8_followFrom : MSel mX8_followFrom := (gw_of (i := 42) (by decide +kernel) (by decide +kernel))
theorem ok_X8_isThing : MOk mX8_isThing 1 := ⟨(gw_of (i := 901) (by decide +kernel) (by decide +kernel)), (gw_of (i := 97) (by decide +kernel) (by decide +kernel)), ⟨by decide +kernel, by decide +kernel, by decide +kernel⟩, by decide +kernel⟩
theorem is_X8_isThing : MInst mX8_isThing := (gw_of (i := 900) (by decide +kernel) (by decide +kernel))
theorem se_X8_isThing : MSel mX8_isThing := (gw_of (i := 37) (by decide +kernel) (by decide +kernel))
theorem ok_X8_inName : MOk mX8_inName 2 := ⟨(gw_of (i := 868) (by decide +kernel) (by decide +kernel)), (gw_of (i := 97) (by decide +kernel) (by decide +kernel)), ⟨by decide +kernel, by decide +kernel, by decide +kernel⟩, by decide +kernel⟩
theorem is_X8_inName : MInst mX8_inName := (gw_of (i := 867) (by decide +kernel) (by decide +kernel))
theorem se_X8_inName : MSel mX8_inName := (gw_of (i := 33) (by decide +kernel) (by decide +kernel))
theorem ok_X8_setName : MOk mX8_setName 3 := ⟨(gw_of (i := 857) (by decide +kernel) (by decide +kernel)), (gw_of (i := 97) (by decide +kernel) (by decide +kernel)), ⟨by decide +kernel, by decide +kernel, by decide +kernel⟩, by decide +kernel⟩
theorem is_X8_setName : MInst mX8_setName := (gw_of (i := 856) (by decide +kernel) (by decide +kernel))
theorem se_X8_setName : MSel mX8_setName := (gw_of (i := 31) (by decide +kernel) (by decide +kernel))
theorem ok_X9_init : MOk mX9_init 0 := ⟨(gw_of (i := 110) (by decide +kernel) (by decide +kernel)), (gw_of (i := 88) (by decide +kernel) (by decide +kernel)), ⟨by decide +kernel, by decide +kernel, by decide +kernel⟩, by decide +kernel⟩
theorem is_X9_init : MInst mX9_init := (gw_of (i := 109) (by decide +kernel) (by decide +kernel))
theorem ok_X9_type : MOk mX9_type 1 := ⟨(gw_of (i := 390) (by decide +kernel) (by decide +kernel)), (gw_of (i := 88) (by decide +kernel) (by decide +kernel)), ⟨by decide +kernel, by decide +kernel, by decide +kernel⟩, by decide +kernel⟩
theorem is_X9_type : MInst mX9_type := (gw_of (i := 388) (by decide +kernel) (by decide +kernel))
theorem se_X9_type : MSel mX9_type := (gw_of (i := 389) (by decide +kernel) (by decide +kernel))
theorem ok_X9_clear : MOk mX9_clear 0 := ⟨(gw_of (i := 417) (by decide +kernel) (by decide +kernel)), (gw_of (i := 88) (by decide +kernel) (by decide +kernel)), ⟨by decide +kernel, by decide +kernel, by decide +kernel⟩, by decide +kernel⟩
theorem is_X9_clear : MInst mX9_clear := (gw_of (i := 415) (by decide +kernel) (by decide +kernel))
theorem se_X9_clear : MSel mX9_clear := (gw_of (i := 416) (by decide +kernel) (by decide +kernel))
theorem ok_X9_reads : MOk mX9_reads 0 := ⟨(gw_of (i := 425) (by decide +kernel) (by decide +kernel)), (gw_of (i := 88) (by decide +kernel) (by decide +kernel)), ⟨by decide +kernel, by decide +kernel, by decide +kernel⟩, by decide +kernel⟩
theorem is_X9_reads : MInst mX9_reads := (gw_of (i := 423) (by decide +kernel) (by decide +kernel))
theorem se_X9_reads : MSel mX9_reads := (gw_of (i := 424) (by decide +kernel) (by decide +kernel))
theorem ok_X9_drops : MOk mX9_drops 2 := ⟨(gw_of (i := 609) (by decide +kernel) (by decide +kernel)), (gw_of (i := 88) (by decide +kernel) (by decide +kernel)), ⟨by decide +kernel, by decide +kernel, by decide +kernel⟩, by decide +kernel⟩
theorem is_X9_drops : MInst mX9_drops := (gw_of (i := 607) (by decide +kernel) (by decide +kernel))
theorem se_X9_drops : MSel mX9_drops := (gw_of (i := 608) (by decide +kernel) (by decide +kernel))
theorem ok_X9_swaps : MOk mX9_swaps 2 := ⟨(gw_of (i := 627) (by decide +kernel) (by decide +kernel)), (gw_of (i := 88) (by decide +kernel) (by decide +kernel)), ⟨by decide +kernel, by decide +kernel, by decide +kernel⟩, by decide +kernel⟩
theorem is_X9_swaps : MInst mX9_swaps := (gw_of (i := 625) (by decide +kernel) (by decide +kernel))
theorem se_X9_swaps : MSel mX9_swaps := (gw_of (i := 626) (by decide +kernel) (by decide +kernel))
theorem ok_X9_of : MOk mX9_of 2 := ⟨(gw_of (i := 635) (by decide +kernel) (by decide +kernel)), (gw_of (i := 88) (by decide +kernel) (by decide +kernel)), ⟨by decide +kernel, by decide +kernel, by decide +kernel⟩, by decide +kernel⟩
theorem is_X9_of : MInst mX9_of := (gw_of (i := 633) (by decide +kernel) (by decide +kernel))
theorem se_X9_of : MSel mX9_of := (gw_of (i := 634) (by decide +kernel) (by decide +kernel))
theorem ok_X9_line : MOk mX9_line 3 := ⟨(gw_of (i := 777) (by decide +kernel) (by decide +kernel)), (gw_of (i := 88) (by decide +kernel) (by decide +kernel)), ⟨by decide +kernel, by decide +kernel, by decide +kernel⟩, by decide +kernel⟩
theorem is_X9_line : MInst mX9_line := (gw_of (i := 775) (by decide +kernel) (by decide +kernel))
theorem se_X9_line : MSel mX9_line := (gw_of (i := 776) (by decide +kernel) (by decide +kernel))
theorem ok_X9_site : MOk mX9_site 2 := ⟨(gw_of (i := 794) (by decide +kernel) (by decide +kernel)), (gw_of (i := 88) (by decide +kernel) (by decide +kernel)), ⟨by decide +kernel, by decide +kernel, by decide +kernel⟩, by decide +kernel⟩
theorem is_X9_site : MInst mX9_site := (gw_of (i := 792) (by decide +kernel) (by decide +kernel))
theorem se_X9_site : MSel mX9_site := (gw_of (i := 793) (by decide +kernel) (by decide +kernel))
theorem ok_X9_may : MOk mX9_may 2 := ⟨(gw_of (i := 816) (by decide +kernel) (by decide +kernel)), (gw_of (i := 88) (by decide +kernel) (by decide +kernel)), ⟨by decide +kernel, by decide +kernel, by decide +kernel⟩, by decide +kernel⟩
theorem is_X9_may : MInst mX9_may := (gw_of (i := 814) (by decide +kernel) (by decide +kernel))
theorem se_X9_may : MSel mX9_may := (gw_of (i := 815) (by decide +kernel) (by decide +kernel))
theorem ok_X9_open : MOk mX9_open 0 := ⟨(gw_of (i := 821) (by decide +kernel) (by decide +kernel)), (gw_of (i := 88) (by decide +kernel) (by decide +kernel)), ⟨by decide +kernel, by decide +kernel, by decide +kernel⟩, by decide +kernel⟩
theorem is_X9_open : MInst mX9_open := (gw_of (i := 819) (by decide +kernel) (by decide +kernel))
theorem se_X9_open : MSel mX9_open := (gw_of (i := 820) (by decide +kernel) (by decide +kernel))
theorem ok_X9_reached : MOk mX9_reached 2 := ⟨(gw_of (i := 826) (by decide +kernel) (by decide +kernel)), (gw_of (i := 88) (by decide +kernel) (by decide +kernel)), ⟨by decide +kernel, by decide +kernel, by decide +kernel⟩, by decide +kernel⟩
theorem is_X9_reached : MInst mX9_reached := (gw_of (i := 824) (by decide +kernel) (by decide +kernel))
theorem se_X9_reached : MSel mX9_reached := (gw_of (i := 825) (by decide +kernel) (by decide +kernel))
theorem ok_X9_fates : MOk mX9_fates 1 := ⟨(gw_of (i := 831) (by decide +kernel) (by decide +kernel)), (gw_of (i := 88) (by decide +kernel) (by decide +kernel)), ⟨by decide +kernel, by decide +kernel, by decide +kernel⟩, by decide +kernel⟩
theorem is_X9_fates : MInst mX9_fates := (gw_of (i := 829) (by decide +kernel) (by decide +kernel))
theorem se_X9_fates : MSel mX9_fates := (gw_of (i := 830) (by decide +kernel) (by decide +kernel))
theorem ok_X9_run : MOk mX9_run 1 := ⟨(gw_of (i := 839) (by decide +kernel) (by decide +kernel)), (gw_of (i := 88) (by decide +kernel) (by decide +kernel)), ⟨by decide +kernel, by decide +kernel, by decide +kernel⟩, by decide +kernel⟩
theorem is_X9_run : MInst mX9_run := (gw_of (i := 837) (by decide +kernel) (by decide +kernel))
theorem se_X9_run : MSel mX9_run := (gw_of (i := 838) (by decide +kernel) (by decide +kernel))
theorem ok_X9_ran : MOk mX9_ran 2 := ⟨(gw_of (i := 956) (by decide +kernel) (by decide +kernel)), (gw_of (i := 88) (by decide +kernel) (by decide +kernel)), ⟨by decide +kernel, by decide +kernel, by decide +kernel⟩, by decide +kernel⟩
theorem is_X9_ran : MInst mX9_ran := (gw_of (i := 954) (by decide +kernel) (by decide +kernel))
theorem se_X9_ran : MSel mX9_ran := (gw_of (i := 955) (by decide +kernel) (by decide +kernel))
theorem ok_X9_held : MOk mX9_held 0 := ⟨(gw_of (i := 976) (by decide +kernel) (by decide +kernel)), (gw_of (i := 88) (by decide +kernel) (by decide +kernel)), ⟨by decide +kernel, by decide +kernel, by decide +kernel⟩, by decide +kernel⟩
theorem is_X9_held : MInst mX9_held := (gw_of (i := 974) (by decide +kernel) (by decide +kernel))
theorem se_X9_held : MSel mX9_held := (gw_of (i := 975) (by decide +kernel) (by decide +kernel))
theorem ok_X9_back : MOk mX9_back 0 := ⟨(gw_of (i := 984) (by decide +kernel) (by decide +kernel)), (gw_of (i := 88) (by decide +kernel) (by decide +kernel)), ⟨by decide +kernel, by decide +kernel, by decide +kernel⟩, by decide +kernel⟩
theorem is_X9_back : MInst mX9_back := (gw_of (i := 982) (by decide +kernel) (by decide +kernel))
theorem se_X9_back : MSel mX9_back := (gw_of (i := 983) (by decide +kernel) (by decide +kernel))
theorem ok_X9_told : MOk mX9_told 1 := ⟨(gw_of (i := 1000) (by decide +kernel) (by decide +kernel)), (gw_of (i := 88) (by decide +kernel) (by decide +kernel)), ⟨by decide +kernel, by decide +kernel, by decide +kernel⟩, by decide +kernel⟩
theorem is_X9_told : MInst mX9_told := (gw_of (i := 998) (by decide +kernel) (by decide +kernel))
theorem se_X9_told : MSel mX9_told := (gw_of (i := 999) (by decide +kernel) (by decide +kernel))
theorem ok_X9_digest : MOk mX9_digest 0 := ⟨(gw_of (i := 1008) (by decide +kernel) (by decide +kernel)), (gw_of (i := 88) (by decide +kernel) (by decide +kernel)), ⟨by decide +kernel, by decide +kernel, by decide +kernel⟩, by decide +kernel⟩
theorem is_X9_digest : MInst mX9_digest := (gw_of (i := 1006) (by decide +kernel) (by decide +kernel))
theorem se_X9_digest : MSel mX9_digest := (gw_of (i := 1007) (by decide +kernel) (by decide +kernel))
theorem ok_X9_digestWithMethod : MOk mX9_digestWithMethod 2 := ⟨(gw_of (i := 1014) (by decide +kernel) (by decide +kernel)), (gw_of (i := 88) (by decide +kernel) (by decide +kernel)), ⟨by decide +kernel, by decide +kernel, by decide +kernel⟩, by decide +kernel⟩
theorem is_X9_digestWithMethod : MInst mX9_digestWithMethod := (gw_of (i := 1013) (by decide +kernel) (by decide +kernel))
theorem se_X9_digestWithMethod : MSel mX9_digestWithMethod := (gw_of (i := 47) (by decide +kernel) (by decide +kernel))
theorem ok_X9_digestWithSite : MOk mX9_digestWithSite 2 := ⟨(gw_of (i := 1018) (by decide +kernel) (by decide +kernel)), (gw_of (i := 88) (by decide +kernel) (by decide +kernel)), ⟨by decide +kernel, by decide +kernel, by decide +kernel⟩, by decide +kernel⟩
theorem is_X9_digestWithSite : MInst mX9_digestWithSite := (gw_of (i := 1017) (by decide +kernel) (by decide +kernel))
theorem se_X9_digestWithSite : MSel mX9_digestWithSite := (gw_of (i := 48) (by decide +kernel) (by decide +kernel))
theorem ok_X9_ofMethod : MOk mX9_ofMethod 2 := ⟨(gw_of (i := 754) (by decide +kernel) (by decide +kernel)), (gw_of (i := 88) (by decide +kernel) (by decide +kernel)), ⟨by decide +kernel, by decide +kernel, by decide +kernel⟩, by decide +kernel⟩
theorem is_X9_ofMethod : MInst mX9_ofMethod := (gw_of (i := 753) (by decide +kernel) (by decide +kernel))
theorem se_X9_ofMethod : MSel mX9_ofMethod := (gw_of (i := 26) (by decide +kernel) (by decide +kernel))
theorem ok_X9_ofLine : MOk mX9_ofLine 3 := ⟨(gw_of (i := 781) (by decide +kernel) (by decide +kernel)), (gw_of (i := 88) (by decide +kernel) (by decide +kernel)), ⟨by decide +kernel, by decide +kernel, by decide +kernel⟩, by decide +kernel⟩
theorem is_X9_ofLine : MInst mX9_ofLine := (gw_of (i := 780) (by decide +kernel) (by decide +kernel))
theorem se_X9_ofLine : MSel mX9_ofLine := (gw_of (i := 27) (by decide +kernel) (by decide +kernel))
theorem ok_X9_ofSite : MOk mX9_ofSite 2 := ⟨(gw_of (i := 799) (by decide +kernel) (by decide +kernel)), (gw_of (i := 88) (by decide +kernel) (by decide +kernel)), ⟨by decide +kernel, by decide +kernel, by decide +kernel⟩, by decide +kernel⟩
theorem is_X9_ofSite : MInst mX9_ofSite := (gw_of (i := 798) (by decide +kernel) (by decide +kernel))
theorem se_X9_ofSite : MSel mX9_ofSite := (gw_of (i := 28) (by decide +kernel) (by decide +kernel))
theorem ok_X9_ofRun : MOk mX9_ofRun 1 := ⟨(gw_of (i := 928) (by decide +kernel) (by decide +kernel)), (gw_of (i := 88) (by decide +kernel) (by decide +kernel)), ⟨by decide +kernel, by decide +kernel, by decide +kernel⟩, by decide +kernel⟩
theorem is_X9_ofRun : MInst mX9_ofRun := (gw_of (i := 927) (by decide +kernel) (by decide +kernel))
theorem se_X9_ofRun : MSel mX9_ofRun := (gw_of (i := 43) (by decide +kernel) (by decide +kernel))
theorem ok_X9_ofSiteRun : MOk mX9_ofSiteRun 2 := ⟨(gw_of (i := 960) (by decide +kernel) (by decide +kernel)), (gw_of (i := 88) (by decide +kernel) (by decide +kernel)), ⟨by decide +kernel, by decide +kernel, by decide +kernel⟩, by decide +kernel⟩
theorem is_X9_ofSiteRun : MInst mX9_ofSiteRun := (gw_of (i := 959) (by decide +kernel) (by decide +kernel))
theorem se_X9_ofSiteRun : MSel mX9_ofSiteRun := (gw_of (i := 44) (by decide +kernel) (by decide +kernel))
theorem ok_X9_ofAll : MOk mX9_ofAll 1 := ⟨(gw_of (i := 1004) (by decide +kernel) (by decide +kernel)), (gw_of (i := 88) (by decide +kernel) (by decide +kernel)), ⟨by decide +kernel, by decide +kernel, by decide +kernel⟩, by decide +kernel⟩
theorem is_X9_ofAll : MInst mX9_ofAll := (gw_of (i := 1003) (by decide +kernel) (by decide +kernel))
theorem se_X9_ofAll : MSel mX9_ofAll := (gw_of (i := 46) (by decide +kernel) (by decide +kernel))
theorem ok_X9_refusedAsBad : MOk mX9_refusedAsBad 0 := ⟨(gw_of (i := 397) (by decide +kernel) (by decide +kernel)), (gw_of (i := 88) (by decide +kernel) (by decide +kernel)), ⟨by decide +kernel, by decide +kernel, by decide +kernel⟩, by decide +kernel⟩
theorem is_X9_refusedAsBad : MInst mX9_refusedAsBad := (gw_of (i := 396) (by decide +kernel) (by decide +kernel))
theorem se_X9_refusedAsBad : MSel mX9_refusedAsBad := (gw_of (i := 0) (by decide +kernel) (by decide +kernel))
theorem ok_X9_refusedAsNo : MOk mX9_refusedAsNo 0 := ⟨(gw_of (i := 992) (by decide +kernel) (by decide +kernel)), (gw_of (i := 88) (by decide +kernel) (by decide +kernel)), ⟨by decide +kernel, by decide +kernel, by decide +kernel⟩, by decide +kernel⟩
theorem is_X9_refusedAsNo : MInst mX9_refusedAsNo := (gw_of (i := 991) (by decide +kernel) (by decide +kernel))
theorem se_X9_refusedAsNo : MSel mX9_refusedAsNo := (gw_of (i := 45) (by decide +kernel) (by decide +kernel))
theorem ok_X9_refusedAsFull : MOk mX9_refusedAsFull 0 := ⟨(gw_of (i := 405) (by decide +kernel) (by decide +kernel)), (gw_of (i := 88) (by decide +kernel) (by decide +kernel)), ⟨by decide +kernel, by decide +kernel, by decide +kernel⟩, by decide +kernel⟩
theorem is_X9_refusedAsFull : MInst mX9_refusedAsFull := (gw_of (i := 404) (by decide +kernel) (by decide +kernel))
theorem se_X9_refusedAsFull : MSel mX9_refusedAsFull := (gw_of (i := 1) (by decide +kernel) (by decide +kernel))
theorem ok_X9_isOutside : MOk mX9_isOutside 2 := ⟨(gw_of (i := 393) (by decide +kernel) (by decide +kernel)), (gw_of (i := 88) (by decide +kernel) (by decide +kernel)), ⟨by decide +kernel, by decide +kernel, by decide +kernel⟩, by decide +kernel⟩
theorem st_X9_isOutside : MStat mX9_isOutside := (gw_of (i := 392) (by decide +kernel) (by decide +kernel))
theorem ok_X9_leaveState : MOk mX9_leaveState 0 := ⟨(gw_of (i := 584) (by decide +kernel) (by decide +kernel)), (gw_of (i := 88) (by decide +kernel) (by decide +kernel)), ⟨by decide +kernel, by decide +kernel, by decide +kernel⟩, by decide +kernel⟩
theorem is_X9_leaveState : MInst mX9_leaveState := (gw_of (i := 583) (by decide +kernel) (by decide +kernel))
theorem se_X9_leaveState : MSel mX9_leaveState := (gw_of (i := 12) (by decide +kernel) (by decide +kernel))
theorem ok_X9_forgetFindings : MOk mX9_forgetFindings 0 := ⟨(gw_of (i := 603) (by decide +kernel) (by decide +kernel)), (gw_of (i := 88) (by decide +kernel) (by decide +kernel)), ⟨by decide +kernel, by decide +kernel, by decide +kernel⟩, by decide +kernel⟩
theorem is_X9_forgetFindings : MInst mX9_forgetFindings := (gw_of (i := 602) (by decide +kernel) (by decide +kernel))
theorem se_X9_forgetFindings : MSel mX9_forgetFindings := (gw_of (i := 14) (by decide +kernel) (by decide +kernel))
theorem ok_X9_findMays : MOk mX9_findMays 0 := ⟨(gw_of (i := 640) (by decide +kernel) (by decide +kernel)), (gw_of (i := 88) (by decide +kernel) (by decide +kernel)), ⟨by decide +kernel, by decide +kernel, by decide +kernel⟩, by decide +kernel⟩
theorem is_X9_findMays : MInst mX9_findMays := (gw_of (i := 639) (by decide +kernel) (by decide +kernel))
theorem se_X9_findMays : MSel mX9_findMays := (gw_of (i := 15) (by decide +kernel) (by decide +kernel))
theorem ok_X9_findRun : MOk mX9_findRun 0 := ⟨(gw_of (i := 843) (by decide +kernel) (by decide +kernel)), (gw_of (i := 88) (by decide +kernel) (by decide +kernel)), ⟨by decide +kernel, by decide +kernel, by decide +kernel⟩, by decide +kernel⟩
theorem is_X9_findRun : MInst mX9_findRun := (gw_of (i := 842) (by decide +kernel) (by decide +kernel))
theorem se_X9_findRun : MSel mX9_findRun := (gw_of (i := 29) (by decide +kernel) (by decide +kernel))
theorem ok_X10_init : MOk mX10_init 0 := ⟨(gw_of (i := 1023) (by decide +kernel) (by decide +kernel)), (gw_of (i := 98) (by decide +kernel) (by decide +kernel)), ⟨by decide +kernel, by decide +kernel, by decide +kernel⟩, by decide +kernel⟩
theorem is_X10_init : MInst mX10_init := (gw_of (i := 1022) (by decide +kernel) (by decide +kernel))
theorem ok_X10_in : MOk mX10_in 3 := ⟨(gw_of (i := 1167) (by decide +kernel) (by decide +kernel)), (gw_of (i := 98) (by decide +kernel) (by decide +kernel)), ⟨by decide +kernel, by decide +kernel, by decide +kernel⟩, by decide +kernel⟩
theorem st_X10_in : MStat mX10_in := (gw_of (i := 1166) (by decide +kernel) (by decide +kernel))
theorem ok_X10_bring : MOk mX10_bring 4 := ⟨(gw_of (i := 1225) (by decide +kernel) (by decide +kernel)), (gw_of (i := 98) (by decide +kernel) (by decide +kernel)), ⟨by decide +kernel, by decide +kernel, by decide +kernel⟩, by decide +kernel⟩
theorem st_X10_bring : MStat mX10_bring := (gw_of (i := 1224) (by decide +kernel) (by decide +kernel))
theorem ok_X10_refuse : MOk mX10_refuse 1 := ⟨(gw_of (i := 1171) (by decide +kernel) (by decide +kernel)), (gw_of (i := 98) (by decide +kernel) (by decide +kernel)), ⟨by decide +kernel, by decide +kernel, by decide +kernel⟩, by decide +kernel⟩
theorem is_X10_refuse : MInst mX10_refuse := (gw_of (i := 1170) (by decide +kernel) (by decide +kernel))
theorem se_X10_refuse : MSel mX10_refuse := (gw_of (i := 49) (by decide +kernel) (by decide +kernel))
theorem ok_X10_note : MOk mX10_note 0 := ⟨(gw_of (i := 1222) (by decide +kernel) (by decide +kernel)), (gw_of (i := 98) (by decide +kernel) (by decide +kernel)), ⟨by decide +kernel, by decide +kernel, by decide +kernel⟩, by decide +kernel⟩
theorem is_X10_note : MInst mX10_note := (gw_of (i := 1221) (by decide +kernel) (by decide +kernel))
theorem se_X10_note : MSel mX10_note := (gw_of (i := 59) (by decide +kernel) (by decide +kernel))
theorem ok_X10_isWordByte : MOk mX10_isWordByte 0 := ⟨(gw_of (i := 1191) (by decide +kernel) (by decide +kernel)), (gw_of (i := 98) (by decide +kernel) (by decide +kernel)), ⟨by decide +kernel, by decide +kernel, by decide +kernel⟩, by decide +kernel⟩
theorem is_X10_isWordByte : MInst mX10_isWordByte := (gw_of (i := 1190) (by decide +kernel) (by decide +kernel))
theorem se_X10_isWordByte : MSel mX10_isWordByte := (gw_of (i := 52) (by decide +kernel) (by decide +kernel))
theorem ok_X10_isWord : MOk mX10_isWord 4 := ⟨(gw_of (i := 1195) (by decide +kernel) (by decide +kernel)), (gw_of (i := 98) (by decide +kernel) (by decide +kernel)), ⟨by decide +kernel, by decide +kernel, by decide +kernel⟩, by decide +kernel⟩
theorem is_X10_isWord : MInst mX10_isWord := (gw_of (i := 1194) (by decide +kernel) (by decide +kernel))
theorem se_X10_isWord : MSel mX10_isWord := (gw_of (i := 53) (by decide +kernel) (by decide +kernel))
theorem ok_X10_next : MOk mX10_next 0 := ⟨(gw_of (i := 1187) (by decide +kernel) (by decide +kernel)), (gw_of (i := 98) (by decide +kernel) (by decide +kernel)), ⟨by decide +kernel, by decide +kernel, by decide +kernel⟩, by decide +kernel⟩
theorem is_X10_next : MInst mX10_next := (gw_of (i := 1186) (by decide +kernel) (by decide +kernel))
theorem se_X10_next : MSel mX10_next := (gw_of (i := 51) (by decide +kernel) (by decide +kernel))
theorem ok_X10_isNext : MOk mX10_isNext 1 := ⟨(gw_of (i := 1214) (by decide +kernel) (by decide +kernel)), (gw_of (i := 98) (by decide +kernel) (by decide +kernel)), ⟨by decide +kernel, by decide +kernel, by decide +kernel⟩, by decide +kernel⟩
theorem is_X10_isNext : MInst mX10_isNext := (gw_of (i := 1213) (by decide +kernel) (by decide +kernel))
theorem se_X10_isNext : MSel mX10_isNext := (gw_of (i := 57) (by decide +kernel) (by decide +kernel))
theorem ok_X10_nameOf : MOk mX10_nameOf 1 := ⟨(gw_of (i := 1206) (by decide +kernel) (by decide +kernel)), (gw_of (i := 98) (by decide +kernel) (by decide +kernel)), ⟨by decide +kernel, by decide +kernel, by decide +kernel⟩, by decide +kernel⟩
theorem st_X10_nameOf : MStat mX10_nameOf := (gw_of (i := 1205) (by decide +kernel) (by decide +kernel))
theorem ok_X10_nextName : MOk mX10_nextName 0 := ⟨(gw_of (i := 1210) (by decide +kernel) (by decide +kernel)), (gw_of (i := 98) (by decide +kernel) (by decide +kernel)), ⟨by decide +kernel, by decide +kernel, by decide +kernel⟩, by decide +kernel⟩
theorem is_X10_nextName : MInst mX10_nextName := (gw_of (i := 1209) (by decide +kernel) (by decide +kernel))
theorem se_X10_nextName : MSel mX10_nextName := (gw_of (i := 56) (by decide +kernel) (by decide +kernel))
theorem ok_X10_readRight : MOk mX10_readRight 1 := ⟨(gw_of (i := 1218) (by decide +kernel) (by decide +kernel)), (gw_of (i := 98) (by decide +kernel) (by decide +kernel)), ⟨by decide +kernel, by decide +kernel, by decide +kernel⟩, by decide +kernel⟩
theorem is_X10_readRight : MInst mX10_readRight := (gw_of (i := 1217) (by decide +kernel) (by decide +kernel))
theorem se_X10_readRight : MSel mX10_readRight := (gw_of (i := 58) (by decide +kernel) (by decide +kernel))
theorem ok_X10_readLine : MOk mX10_readLine 1 := ⟨(gw_of (i := 1203) (by decide +kernel) (by decide +kernel)), (gw_of (i := 98) (by decide +kernel) (by decide +kernel)), ⟨by decide +kernel, by decide +kernel, by decide +kernel⟩, by decide +kernel⟩
theorem is_X10_readLine : MInst mX10_readLine := (gw_of (i := 1202) (by decide +kernel) (by decide +kernel))
theorem se_X10_readLine : MSel mX10_readLine := (gw_of (i := 55) (by decide +kernel) (by decide +kernel))
theorem ok_X10_readMethod : MOk mX10_readMethod 0 := ⟨(gw_of (i := 1199) (by decide +kernel) (by decide +kernel)), (gw_of (i := 98) (by decide +kernel) (by decide +kernel)), ⟨by decide +kernel, by decide +kernel, by decide +kernel⟩, by decide +kernel⟩
theorem is_X10_readMethod : MInst mX10_readMethod := (gw_of (i := 1198) (by decide +kernel) (by decide +kernel))
theorem se_X10_readMethod : MSel mX10_readMethod := (gw_of (i := 54) (by decide +kernel) (by decide +kernel))
theorem ok_X10_readText : MOk mX10_readText 0 := ⟨(gw_of (i := 1183) (by decide +kernel) (by decide +kernel)), (gw_of (i := 98) (by decide +kernel) (by decide +kernel)), ⟨by decide +kernel, by decide +kernel, by decide +kernel⟩, by decide +kernel⟩
theorem is_X10_readText : MInst mX10_readText := (gw_of (i := 1182) (by decide +kernel) (by decide +kernel))
theorem se_X10_readText : MSel mX10_readText := (gw_of (i := 50) (by decide +kernel) (by decide +kernel))
theorem ok_X10_type : MOk mX10_type 1 := ⟨(gw_of (i := 1164) (by decide +kernel) (by decide +kernel)), (gw_of (i := 98) (by decide +kernel) (by decide +kernel)), ⟨by decide +kernel, by decide +kernel, by decide +kernel⟩, by decide +kernel⟩
theorem is_X10_type : MInst mX10_type := (gw_of (i := 1162) (by decide +kernel) (by decide +kernel))
theorem se_X10_type : MSel mX10_type := (gw_of (i := 1163) (by decide +kernel) (by decide +kernel))
theorem ok_X10_clear : MOk mX10_clear 0 := ⟨(gw_of (i := 1175) (by decide +kernel) (by decide +kernel)), (gw_of (i := 98) (by decide +kernel) (by decide +kernel)), ⟨by decide +kernel, by decide +kernel, by decide +kernel⟩, by decide +kernel⟩
theorem is_X10_clear : MInst mX10_clear := (gw_of (i := 1173) (by decide +kernel) (by decide +kernel))
theorem se_X10_clear : MSel mX10_clear := (gw_of (i := 1174) (by decide +kernel) (by decide +kernel))
theorem ok_X10_reads : MOk mX10_reads 0 := ⟨(gw_of (i := 1179) (by decide +kernel) (by decide +kernel)), (gw_of (i := 98) (by decide +kernel) (by decide +kernel)), ⟨by decide +kernel, by decide +kernel, by decide +kernel⟩, by decide +kernel⟩
theorem is_X10_reads : MInst mX10_reads := (gw_of (i := 1177) (by decide +kernel) (by decide +kernel))
theorem se_X10_reads : MSel mX10_reads := (gw_of (i := 1178) (by decide +kernel) (by decide +kernel))
theorem ok_X10_linesOf : MOk mX10_linesOf 1 := ⟨(gw_of (i := 1241) (by decide +kernel) (by decide +kernel)), (gw_of (i := 98) (by decide +kernel) (by decide +kernel)), ⟨by decide +kernel, by decide +kernel, by decide +kernel⟩, by decide +kernel⟩
theorem is_X10_linesOf : MInst mX10_linesOf := (gw_of (i := 1240) (by decide +kernel) (by decide +kernel))
theorem se_X10_linesOf : MSel mX10_linesOf := (gw_of (i := 62) (by decide +kernel) (by decide +kernel))
theorem ok_X10_lineAt : MOk mX10_lineAt 3 := ⟨(gw_of (i := 1261) (by decide +kernel) (by decide +kernel)), (gw_of (i := 98) (by decide +kernel) (by decide +kernel)), ⟨by decide +kernel, by decide +kernel, by decide +kernel⟩, by decide +kernel⟩
theorem is_X10_lineAt : MInst mX10_lineAt := (gw_of (i := 1260) (by decide +kernel) (by decide +kernel))
theorem se_X10_lineAt : MSel mX10_lineAt := (gw_of (i := 65) (by decide +kernel) (by decide +kernel))
theorem ok_X10_isMethod : MOk mX10_isMethod 1 := ⟨(gw_of (i := 1237) (by decide +kernel) (by decide +kernel)), (gw_of (i := 98) (by decide +kernel) (by decide +kernel)), ⟨by decide +kernel, by decide +kernel, by decide +kernel⟩, by decide +kernel⟩
theorem is_X10_isMethod : MInst mX10_isMethod := (gw_of (i := 1236) (by decide +kernel) (by decide +kernel))
theorem se_X10_isMethod : MSel mX10_isMethod := (gw_of (i := 61) (by decide +kernel) (by decide +kernel))
theorem ok_X10_isLine : MOk mX10_isLine 2 := ⟨(gw_of (i := 1233) (by decide +kernel) (by decide +kernel)), (gw_of (i := 98) (by decide +kernel) (by decide +kernel)), ⟨by decide +kernel, by decide +kernel, by decide +kernel⟩, by decide +kernel⟩
theorem is_X10_isLine : MInst mX10_isLine := (gw_of (i := 1232) (by decide +kernel) (by decide +kernel))
theorem se_X10_isLine : MSel mX10_isLine := (gw_of (i := 60) (by decide +kernel) (by decide +kernel))
theorem ok_X10_drops : MOk mX10_drops 2 := ⟨(gw_of (i := 1229) (by decide +kernel) (by decide +kernel)), (gw_of (i := 98) (by decide +kernel) (by decide +kernel)), ⟨by decide +kernel, by decide +kernel, by decide +kernel⟩, by decide +kernel⟩
theorem is_X10_drops : MInst mX10_drops := (gw_of (i := 1227) (by decide +kernel) (by decide +kernel))
theorem se_X10_drops : MSel mX10_drops := (gw_of (i := 1228) (by decide +kernel) (by decide +kernel))
theorem ok_X10_swaps : MOk mX10_swaps 2 := ⟨(gw_of (i := 1245) (by decide +kernel) (by decide +kernel)), (gw_of (i := 98) (by decide +kernel) (by decide +kernel)), ⟨by decide +kernel, by decide +kernel, by decide +kernel⟩, by decide +kernel⟩
theorem is_X10_swaps : MInst mX10_swaps := (gw_of (i := 1243) (by decide +kernel) (by decide +kernel))
theorem se_X10_swaps : MSel mX10_swaps := (gw_of (i := 1244) (by decide +kernel) (by decide +kernel))
theorem ok_X10_findSites : MOk mX10_findSites 0 := ⟨(gw_of (i := 1257) (by decide +kernel) (by decide +kernel)), (gw_of (i := 98) (by decide +kernel) (by decide +kernel)), ⟨by decide +kernel, by decide +kernel, by decide +kernel⟩, by decide +kernel⟩
theorem is_X10_findSites : MInst mX10_findSites := (gw_of (i := 1256) (by decide +kernel) (by decide +kernel))
theorem se_X10_findSites : MSel mX10_findSites := (gw_of (i := 64) (by decide +kernel) (by decide +kernel))
theorem ok_X10_add : MOk mX10_add 2 := ⟨(gw_of (i := 1269) (by decide +kernel) (by decide +kernel)), (gw_of (i := 98) (by decide +kernel) (by decide +kernel)), ⟨by decide +kernel, by decide +kernel, by decide +kernel⟩, by decide +kernel⟩
theorem is_X10_add : MInst mX10_add := (gw_of (i := 1268) (by decide +kernel) (by decide +kernel))
theorem se_X10_add : MSel mX10_add := (gw_of (i := 67) (by decide +kernel) (by decide +kernel))
theorem ok_X10_has : MOk mX10_has 2 := ⟨(gw_of (i := 1272) (by decide +kernel) (by decide +kernel)), (gw_of (i := 98) (by decide +kernel) (by decide +kernel)), ⟨by decide +kernel, by decide +kernel, by decide +kernel⟩, by decide +kernel⟩
theorem st_X10_has : MStat mX10_has := (gw_of (i := 1271) (by decide +kernel) (by decide +kernel))
theorem ok_X10_fields : MOk mX10_fields 1 := ⟨(gw_of (i := 1276) (by decide +kernel) (by decide +kernel)), (gw_of (i := 98) (by decide +kernel) (by decide +kernel)), ⟨by decide +kernel, by decide +kernel, by decide +kernel⟩, by decide +kernel⟩
theorem is_X10_fields : MInst mX10_fields := (gw_of (i := 1275) (by decide +kernel) (by decide +kernel))
theorem se_X10_fields : MSel mX10_fields := (gw_of (i := 68) (by decide +kernel) (by decide +kernel))
theorem ok_X10_goThrough : MOk mX10_goThrough 2 := ⟨(gw_of (i := 1265) (by decide +kernel) (by decide +kernel)), (gw_of (i := 98) (by decide +kernel) (by decide +kernel)), ⟨by decide +kernel, by decide +kernel, by decide +kernel⟩, by decide +kernel⟩
theorem is_X10_goThrough : MInst mX10_goThrough := (gw_of (i := 1264) (by decide +kernel) (by decide +kernel))
theorem se_X10_goThrough : MSel mX10_goThrough := (gw_of (i := 66) (by decide +kernel) (by decide +kernel))
theorem ok_X10_findMays : MOk mX10_findMays 0 := ⟨(gw_of (i := 1253) (by decide +kernel) (by decide +kernel)), (gw_of (i := 98) (by decide +kernel) (by decide +kernel)), ⟨by decide +kernel, by decide +kernel, by decide +kernel⟩, by decide +kernel⟩
theorem is_X10_findMays : MInst mX10_findMays := (gw_of (i := 1252) (by decide +kernel) (by decide +kernel))
theorem se_X10_findMays : MSel mX10_findMays := (gw_of (i := 63) (by decide +kernel) (by decide +kernel))
theorem ok_X10_reachedFrom : MOk mX10_reachedFrom 1 := ⟨(gw_of (i := 1296) (by decide +kernel) (by decide +kernel)), (gw_of (i := 98) (by decide +kernel) (by decide +kernel)), ⟨by decide +kernel, by decide +kernel, by decide +kernel⟩, by decide +kernel⟩
theorem is_X10_reachedFrom : MInst mX10_reachedFrom := (gw_of (i := 1295) (by decide +kernel) (by decide +kernel))
theorem se_X10_reachedFrom : MSel mX10_reachedFrom := (gw_of (i := 73) (by decide +kernel) (by decide +kernel))
theorem ok_X10_fateOf : MOk mX10_fateOf 1 := ⟨(gw_of (i := 1292) (by decide +kernel) (by decide +kernel)), (gw_of (i := 98) (by decide +kernel) (by decide +kernel)), ⟨by decide +kernel, by decide +kernel, by decide +kernel⟩, by decide +kernel⟩
theorem is_X10_fateOf : MInst mX10_fateOf := (gw_of (i := 1291) (by decide +kernel) (by decide +kernel))
theorem se_X10_fateOf : MSel mX10_fateOf := (gw_of (i := 72) (by decide +kernel) (by decide +kernel))
theorem ok_X10_fated : MOk mX10_fated 1 := ⟨(gw_of (i := 1288) (by decide +kernel) (by decide +kernel)), (gw_of (i := 98) (by decide +kernel) (by decide +kernel)), ⟨by decide +kernel, by decide +kernel, by decide +kernel⟩, by decide +kernel⟩
theorem is_X10_fated : MInst mX10_fated := (gw_of (i := 1287) (by decide +kernel) (by decide +kernel))
theorem se_X10_fated : MSel mX10_fated := (gw_of (i := 71) (by decide +kernel) (by decide +kernel))
theorem ok_X10_idleOf : MOk mX10_idleOf 1 := ⟨(gw_of (i := 1284) (by decide +kernel) (by decide +kernel)), (gw_of (i := 98) (by decide +kernel) (by decide +kernel)), ⟨by decide +kernel, by decide +kernel, by decide +kernel⟩, by decide +kernel⟩
theorem is_X10_idleOf : MInst mX10_idleOf := (gw_of (i := 1283) (by decide +kernel) (by decide +kernel))
theorem se_X10_idleOf : MSel mX10_idleOf := (gw_of (i := 70) (by decide +kernel) (by decide +kernel))
theorem ok_X10_ones : MOk mX10_ones 1 := ⟨(gw_of (i := 1331) (by decide +kernel) (by decide +kernel)), (gw_of (i := 98) (by decide +kernel) (by decide +kernel)), ⟨by decide +kernel, by decide +kernel, by decide +kernel⟩, by decide +kernel⟩
theorem st_X10_ones : MStat mX10_ones := (gw_of (i := 1330) (by decide +kernel) (by decide +kernel))
theorem ok_X10_ofMethod : MOk mX10_ofMethod 2 := ⟨(gw_of (i := 1280) (by decide +kernel) (by decide +kernel)), (gw_of (i := 98) (by decide +kernel) (by decide +kernel)), ⟨by decide +kernel, by decide +kernel, by decide +kernel⟩, by decide +kernel⟩
theorem is_X10_ofMethod : MInst mX10_ofMethod := (gw_of (i := 1279) (by decide +kernel) (by decide +kernel))
theorem se_X10_ofMethod : MSel mX10_ofMethod := (gw_of (i := 69) (by decide +kernel) (by decide +kernel))
theorem ok_X10_of : MOk mX10_of 2 := ⟨(gw_of (i := 1249) (by decide +kernel) (by decide +kernel)), (gw_of (i := 98) (by decide +kernel) (by decide +kernel)), ⟨by decide +kernel, by decide +kernel, by decide +kernel⟩, by decide +kernel⟩
theorem is_X10_of : MInst mX10_of := (gw_of (i := 1247) (by decide +kernel) (by decide +kernel))
theorem se_X10_of : MSel mX10_of := (gw_of (i := 1248) (by decide +kernel) (by decide +kernel))
theorem ok_X10_ofLine : MOk mX10_ofLine 3 := ⟨(gw_of (i := 1304) (by decide +kernel) (by decide +kernel)), (gw_of (i := 98) (by decide +kernel) (by decide +kernel)), ⟨by decide +kernel, by decide +kernel, by decide +kernel⟩, by decide +kernel⟩
theorem is_X10_ofLine : MInst mX10_ofLine := (gw_of (i := 1303) (by decide +kernel) (by decide +kernel))
theorem se_X10_ofLine : MSel mX10_ofLine := (gw_of (i := 74) (by decide +kernel) (by decide +kernel))
theorem ok_X10_line : MOk mX10_line 3 := ⟨(gw_of (i := 1300) (by decide +kernel) (by decide +kernel)), (gw_of (i := 98) (by decide +kernel) (by decide +kernel)), ⟨by decide +kernel, by decide +kernel, by decide +kernel⟩, by decide +kernel⟩
theorem is_X10_line : MInst mX10_line := (gw_of (i := 1298) (by decide +kernel) (by decide +kernel))
theorem se_X10_line : MSel mX10_line := (gw_of (i := 1299) (by decide +kernel) (by decide +kernel))
theorem ok_X10_ofSite : MOk mX10_ofSite 2 := ⟨(gw_of (i := 1312) (by decide +kernel) (by decide +kernel)), (gw_of (i := 98) (by decide +kernel) (by decide +kernel)), ⟨by decide +kernel, by decide +kernel, by decide +kernel⟩, by decide +kernel⟩
theorem is_X10_ofSite : MInst mX10_ofSite := (gw_of (i := 1311) (by decide +kernel) (by decide +kernel))
theorem se_X10_ofSite : MSel mX10_ofSite := (gw_of (i := 75) (by decide +kernel) (by decide +kernel))
theorem ok_X10_site : MOk mX10_site 2 := ⟨(gw_of (i := 1308) (by decide +kernel) (by decide +kernel)), (gw_of (i := 98) (by decide +kernel) (by decide +kernel)), ⟨by decide +kernel, by decide +kernel, by decide +kernel⟩, by decide +kernel⟩
theorem is_X10_site : MInst mX10_site := (gw_of (i := 1306) (by decide +kernel) (by decide +kernel))
theorem se_X10_site : MSel mX10_site := (gw_of (i := 1307) (by decide +kernel) (by decide +kernel))
theorem ok_X10_may : MOk mX10_may 2 := ⟨(gw_of (i := 1316) (by decide +kernel) (by decide +kernel)), (gw_of (i := 98) (by decide +kernel) (by decide +kernel)), ⟨by decide +kernel, by decide +kernel, by decide +kernel⟩, by decide +kernel⟩
theorem is_X10_may : MInst mX10_may := (gw_of (i := 1314) (by decide +kernel) (by decide +kernel))
theorem se_X10_may : MSel mX10_may := (gw_of (i := 1315) (by decide +kernel) (by decide +kernel))
theorem ok_X10_open : MOk mX10_open 0 := ⟨(gw_of (i := 1320) (by decide +kernel) (by decide +kernel)), (gw_of (i := 98) (by decide +kernel) (by decide +kernel)), ⟨by decide +kernel, by decide +kernel, by decide +kernel⟩, by decide +kernel⟩
theorem is_X10_open : MInst mX10_open := (gw_of (i := 1318) (by decide +kernel) (by decide +kernel))
theorem se_X10_open : MSel mX10_open := (gw_of (i := 1319) (by decide +kernel) (by decide +kernel))
theorem ok_X10_reached : MOk mX10_reached 2 := ⟨(gw_of (i := 1324) (by decide +kernel) (by decide +kernel)), (gw_of (i := 98) (by decide +kernel) (by decide +kernel)), ⟨by decide +kernel, by decide +kernel, by decide +kernel⟩, by decide +kernel⟩
theorem is_X10_reached : MInst mX10_reached := (gw_of (i := 1322) (by decide +kernel) (by decide +kernel))
theorem se_X10_reached : MSel mX10_reached := (gw_of (i := 1323) (by decide +kernel) (by decide +kernel))
theorem ok_X10_fates : MOk mX10_fates 1 := ⟨(gw_of (i := 1328) (by decide +kernel) (by decide +kernel)), (gw_of (i := 98) (by decide +kernel) (by decide +kernel)), ⟨by decide +kernel, by decide +kernel, by decide +kernel⟩, by decide +kernel⟩
theorem is_X10_fates : MInst mX10_fates := (gw_of (i := 1326) (by decide +kernel) (by decide +kernel))
theorem se_X10_fates : MSel mX10_fates := (gw_of (i := 1327) (by decide +kernel) (by decide +kernel))
theorem ok_X10_call : MOk mX10_call 2 := ⟨(gw_of (i := 1343) (by decide +kernel) (by decide +kernel)), (gw_of (i := 98) (by decide +kernel) (by decide +kernel)), ⟨by decide +kernel, by decide +kernel, by decide +kernel⟩, by decide +kernel⟩
theorem is_X10_call : MInst mX10_call := (gw_of (i := 1342) (by decide +kernel) (by decide +kernel))
theorem se_X10_call : MSel mX10_call := (gw_of (i := 77) (by decide +kernel) (by decide +kernel))
theorem ok_X10_follow : MOk mX10_follow 2 := ⟨(gw_of (i := 1355) (by decide +kernel) (by decide +kernel)), (gw_of (i := 98) (by decide +kernel) (by decide +kernel)), ⟨by decide +kernel, by decide +kernel, by decide +kernel⟩, by decide +kernel⟩
theorem is_X10_follow : MInst mX10_follow := (gw_of (i := 1354) (by decide +kernel) (by decide +kernel))
theorem se_X10_follow : MSel mX10_follow := (gw_of (i := 80) (by decide +kernel) (by decide +kernel))
theorem ok_X10_end : MOk mX10_end 0 := ⟨(gw_of (i := 1351) (by decide +kernel) (by decide +kernel)), (gw_of (i := 98) (by decide +kernel) (by decide +kernel)), ⟨by decide +kernel, by decide +kernel, by decide +kernel⟩, by decide +kernel⟩
theorem is_X10_end : MInst mX10_end := (gw_of (i := 1350) (by decide +kernel) (by decide +kernel))
theorem se_X10_end : MSel mX10_end := (gw_of (i := 79) (by decide +kernel) (by decide +kernel))
theorem ok_X10_make : MOk mX10_make 1 := ⟨(gw_of (i := 1359) (by decide +kernel) (by decide +kernel)), (gw_of (i := 98) (by decide +kernel) (by decide +kernel)), ⟨by decide +kernel, by decide +kernel, by decide +kernel⟩, by decide +kernel⟩
theorem is_X10_make : MInst mX10_make := (gw_of (i := 1358) (by decide +kernel) (by decide +kernel))
theorem se_X10_make : MSel mX10_make := (gw_of (i := 81) (by decide +kernel) (by decide +kernel))
theorem ok_X10_lock : MOk mX10_lock 3 := ⟨(gw_of (i := 1363) (by decide +kernel) (by decide +kernel)), (gw_of (i := 98) (by decide +kernel) (by decide +kernel)), ⟨by decide +kernel, by decide +kernel, by decide +kernel⟩, by decide +kernel⟩
theorem is_X10_lock : MInst mX10_lock := (gw_of (i := 1362) (by decide +kernel) (by decide +kernel))
theorem se_X10_lock : MSel mX10_lock := (gw_of (i := 82) (by decide +kernel) (by decide +kernel))
theorem ok_X10_step : MOk mX10_step 0 := ⟨(gw_of (i := 1347) (by decide +kernel) (by decide +kernel)), (gw_of (i := 98) (by decide +kernel) (by decide +kernel)), ⟨by decide +kernel, by decide +kernel, by decide +kernel⟩, by decide +kernel⟩
theorem is_X10_step : MInst mX10_step := (gw_of (i := 1346) (by decide +kernel) (by decide +kernel))
theorem se_X10_step : MSel mX10_step := (gw_of (i := 78) (by decide +kernel) (by decide +kernel))
theorem ok_X10_goRun : MOk mX10_goRun 0 := ⟨(gw_of (i := 1339) (by decide +kernel) (by decide +kernel)), (gw_of (i := 98) (by decide +kernel) (by decide +kernel)), ⟨by decide +kernel, by decide +kernel, by decide +kernel⟩, by decide +kernel⟩
theorem is_X10_goRun : MInst mX10_goRun := (gw_of (i := 1338) (by decide +kernel) (by decide +kernel))
theorem se_X10_goRun : MSel mX10_goRun := (gw_of (i := 76) (by decide +kernel) (by decide +kernel))
theorem ok_X10_ofRun : MOk mX10_ofRun 1 := ⟨(gw_of (i := 1367) (by decide +kernel) (by decide +kernel)), (gw_of (i := 98) (by decide +kernel) (by decide +kernel)), ⟨by decide +kernel, by decide +kernel, by decide +kernel⟩, by decide +kernel⟩
theorem is_X10_ofRun : MInst mX10_ofRun := (gw_of (i := 1366) (by decide +kernel) (by decide +kernel))
theorem se_X10_ofRun : MSel mX10_ofRun := (gw_of (i := 83) (by decide +kernel) (by decide +kernel))
theorem ok_X10_run : MOk mX10_run 1 := ⟨(gw_of (i := 1335) (by decide +kernel) (by decide +kernel)), (gw_of (i := 98) (by decide +kernel) (by decide +kernel)), ⟨by decide +kernel, by decide +kernel, by decide +kernel⟩, by decide +kernel⟩
theorem is_X10_run : MInst mX10_run := (gw_of (i := 1333) (by decide +kernel) (by decide +kernel))
theorem se_X10_run : MSel mX10_run := (gw_of (i := 1334) (by decide +kernel) (by decide +kernel))
theorem ok_X10_ranOf : MOk mX10_ranOf 2 := ⟨(gw_of (i := 1375) (by decide +kernel) (by decide +kernel)), (gw_of (i := 98) (by decide +kernel) (by decide +kernel)), ⟨by decide +kernel, by decide +kernel, by decide +kernel⟩, by decide +kernel⟩
theorem is_X10_ranOf : MInst mX10_ranOf := (gw_of (i := 1374) (by decide +kernel) (by decide +kernel))
theorem se_X10_ranOf : MSel mX10_ranOf := (gw_of (i := 84) (by decide +kernel) (by decide +kernel))
theorem ok_X10_ran : MOk mX10_ran 2 := ⟨(gw_of (i := 1371) (by decide +kernel) (by decide +kernel)), (gw_of (i := 98) (by decide +kernel) (by decide +kernel)), ⟨by decide +kernel, by decide +kernel, by decide +kernel⟩, by decide +kernel⟩
theorem is_X10_ran : MInst mX10_ran := (gw_of (i := 1369) (by decide +kernel) (by decide +kernel))
theorem se_X10_ran : MSel mX10_ran := (gw_of (i := 1370) (by decide +kernel) (by decide +kernel))
theorem ok_X10_heldNow : MOk mX10_heldNow 0 := ⟨(gw_of (i := 1383) (by decide +kernel) (by decide +kernel)), (gw_of (i := 98) (by decide +kernel) (by decide +kernel)), ⟨by decide +kernel, by decide +kernel, by decide +kernel⟩, by decide +kernel⟩
theorem is_X10_heldNow : MInst mX10_heldNow := (gw_of (i := 1382) (by decide +kernel) (by decide +kernel))
theorem se_X10_heldNow : MSel mX10_heldNow := (gw_of (i := 85) (by decide +kernel) (by decide +kernel))
theorem ok_X10_held : MOk mX10_held 0 := ⟨(gw_of (i := 1379) (by decide +kernel) (by decide +kernel)), (gw_of (i := 98) (by decide +kernel) (by decide +kernel)), ⟨by decide +kernel, by decide +kernel, by decide +kernel⟩, by decide +kernel⟩
theorem is_X10_held : MInst mX10_held := (gw_of (i := 1377) (by decide +kernel) (by decide +kernel))
theorem se_X10_held : MSel mX10_held := (gw_of (i := 1378) (by decide +kernel) (by decide +kernel))
theorem ok_X10_back : MOk mX10_back 0 := ⟨(gw_of (i := 1387) (by decide +kernel) (by decide +kernel)), (gw_of (i := 98) (by decide +kernel) (by decide +kernel)), ⟨by decide +kernel, by decide +kernel, by decide +kernel⟩, by decide +kernel⟩
theorem is_X10_back : MInst mX10_back := (gw_of (i := 1385) (by decide +kernel) (by decide +kernel))
theorem se_X10_back : MSel mX10_back := (gw_of (i := 1386) (by decide +kernel) (by decide +kernel))
theorem ok_X10_toldOf : MOk mX10_toldOf 1 := ⟨(gw_of (i := 1395) (by decide +kernel) (by decide +kernel)), (gw_of (i := 98) (by decide +kernel) (by decide +kernel)), ⟨by decide +kernel, by decide +kernel, by decide +kernel⟩, by decide +kernel⟩
theorem is_X10_toldOf : MInst mX10_toldOf := (gw_of (i := 1394) (by decide +kernel) (by decide +kernel))
theorem se_X10_toldOf : MSel mX10_toldOf := (gw_of (i := 86) (by decide +kernel) (by decide +kernel))
theorem ok_X10_told : MOk mX10_told 1 := ⟨(gw_of (i := 1391) (by decide +kernel) (by decide +kernel)), (gw_of (i := 98) (by decide +kernel) (by decide +kernel)), ⟨by decide +kernel, by decide +kernel, by decide +kernel⟩, by decide +kernel⟩
theorem is_X10_told : MInst mX10_told := (gw_of (i := 1389) (by decide +kernel) (by decide +kernel))
theorem se_X10_told : MSel mX10_told := (gw_of (i := 1390) (by decide +kernel) (by decide +kernel))
theorem ok_X10_digest : MOk mX10_digest 0 := ⟨(gw_of (i := 1399) (by decide +kernel) (by decide +kernel)), (gw_of (i := 98) (by decide +kernel) (by decide +kernel)), ⟨by decide +kernel, by decide +kernel, by decide +kernel⟩, by decide +kernel⟩
theorem is_X10_digest : MInst mX10_digest := (gw_of (i := 1397) (by decide +kernel) (by decide +kernel))
theorem se_X10_digest : MSel mX10_digest := (gw_of (i := 1398) (by decide +kernel) (by decide +kernel))
theorem ok_J0_length_8abf5 : MOk mJ0_length_8abf5 0 := ⟨(gw_of (i := 456) (by decide +kernel) (by decide +kernel)), (gw_of (i := 100) (by decide +kernel) (by decide +kernel)), ⟨by decide +kernel, by decide +kernel, by decide +kernel⟩, by decide +kernel⟩
theorem is_J0_length_8abf5 : MInst mJ0_length_8abf5 := (gw_of (i := 454) (by decide +kernel) (by decide +kernel))
theorem se_J0_length_8abf5 : MSel mJ0_length_8abf5 := (gw_of (i := 455) (by decide +kernel) (by decide +kernel))
theorem ok_J0_charAt_5068e : MOk mJ0_charAt_5068e 1 := ⟨(gw_of (i := 466) (by decide +kernel) (by decide +kernel)), (gw_of (i := 100) (by decide +kernel) (by decide +kernel)), ⟨by decide +kernel, by decide +kernel, by decide +kernel⟩, by decide +kernel⟩
theorem is_J0_charAt_5068e : MInst mJ0_charAt_5068e := (gw_of (i := 464) (by decide +kernel) (by decide +kernel))
theorem se_J0_charAt_5068e : MSel mJ0_charAt_5068e := (gw_of (i := 465) (by decide +kernel) (by decide +kernel))
theorem ok_J0_coder_7d493 : MOk mJ0_coder_7d493 0 := ⟨(gw_of (i := 460) (by decide +kernel) (by decide +kernel)), (gw_of (i := 100) (by decide +kernel) (by decide +kernel)), ⟨by decide +kernel, by decide +kernel, by decide +kernel⟩, by decide +kernel⟩
theorem is_J0_coder_7d493 : MInst mJ0_coder_7d493 := (gw_of (i := 458) (by decide +kernel) (by decide +kernel))
theorem se_J0_coder_7d493 : MSel mJ0_coder_7d493 := (gw_of (i := 459) (by decide +kernel) (by decide +kernel))
theorem ok_J0_isLatin1_aae02 : MOk mJ0_isLatin1_aae02 0 := ⟨(gw_of (i := 470) (by decide +kernel) (by decide +kernel)), (gw_of (i := 100) (by decide +kernel) (by decide +kernel)), ⟨by decide +kernel, by decide +kernel, by decide +kernel⟩, by decide +kernel⟩
theorem is_J0_isLatin1_aae02 : MInst mJ0_isLatin1_aae02 := (gw_of (i := 468) (by decide +kernel) (by decide +kernel))
theorem se_J0_isLatin1_aae02 : MSel mJ0_isLatin1_aae02 := (gw_of (i := 469) (by decide +kernel) (by decide +kernel))
theorem ok_J0_checkIndex_df160 : MOk mJ0_checkIndex_df160 2 := ⟨(gw_of (i := 476) (by decide +kernel) (by decide +kernel)), (gw_of (i := 100) (by decide +kernel) (by decide +kernel)), ⟨by decide +kernel, by decide +kernel, by decide +kernel⟩, by decide +kernel⟩
theorem st_J0_checkIndex_df160 : MStat mJ0_checkIndex_df160 := (gw_of (i := 475) (by decide +kernel) (by decide +kernel))
theorem ok_J1_charAt_3b067 : MOk mJ1_charAt_3b067 2 := ⟨(gw_of (i := 473) (by decide +kernel) (by decide +kernel)), (gw_of (i := 101) (by decide +kernel) (by decide +kernel)), ⟨by decide +kernel, by decide +kernel, by decide +kernel⟩, by decide +kernel⟩
theorem st_J1_charAt_3b067 : MStat mJ1_charAt_3b067 := (gw_of (i := 472) (by decide +kernel) (by decide +kernel))
theorem ok_J7_fill_53178 : MOk mJ7_fill_53178 2 := ⟨(gw_of (i := 512) (by decide +kernel) (by decide +kernel)), (gw_of (i := 104) (by decide +kernel) (by decide +kernel)), ⟨by decide +kernel, by decide +kernel, by decide +kernel⟩, by decide +kernel⟩
theorem st_J7_fill_53178 : MStat mJ7_fill_53178 := (gw_of (i := 511) (by decide +kernel) (by decide +kernel))
theorem ok_J7_copyOf_59c91 : MOk mJ7_copyOf_59c91 2 := ⟨(gw_of (i := 882) (by decide +kernel) (by decide +kernel)), (gw_of (i := 104) (by decide +kernel) (by decide +kernel)), ⟨by decide +kernel, by decide +kernel, by decide +kernel⟩, by decide +kernel⟩
theorem st_J7_copyOf_59c91 : MStat mJ7_copyOf_59c91 := (gw_of (i := 881) (by decide +kernel) (by decide +kernel))
theorem ok_J3_checkIndex_8e157 : MOk mJ3_checkIndex_8e157 3 := ⟨(gw_of (i := 481) (by decide +kernel) (by decide +kernel)), (gw_of (i := 102) (by decide +kernel) (by decide +kernel)), ⟨by decide +kernel, by decide +kernel, by decide +kernel⟩, by decide +kernel⟩
theorem st_J3_checkIndex_8e157 : MStat mJ3_checkIndex_8e157 := (gw_of (i := 480) (by decide +kernel) (by decide +kernel))
theorem ini_L : Cond.initialized RL ∈ gtbl := (gw_of (i := 87) (by decide +kernel) (by decide +kernel))
theorem ini_X9 : Cond.initialized RX9 ∈ gtbl := (gw_of (i := 88) (by decide +kernel) (by decide +kernel))
theorem ini_X6 : Cond.initialized RX6 ∈ gtbl := (gw_of (i := 89) (by decide +kernel) (by decide +kernel))
theorem ini_X2 : Cond.initialized RX2 ∈ gtbl := (gw_of (i := 90) (by decide +kernel) (by decide +kernel))
theorem ini_X3 : Cond.initialized RX3 ∈ gtbl := (gw_of (i := 91) (by decide +kernel) (by decide +kernel))
theorem ini_X7 : Cond.initialized RX7 ∈ gtbl := (gw_of (i := 92) (by decide +kernel) (by decide +kernel))
theorem ini_X5 : Cond.initialized RX5 ∈ gtbl := (gw_of (i := 93) (by decide +kernel) (by decide +kernel))
theorem ini_X4 : Cond.initialized RX4 ∈ gtbl := (gw_of (i := 94) (by decide +kernel) (by decide +kernel))
theorem ini_X1 : Cond.initialized RX1 ∈ gtbl := (gw_of (i := 95) (by decide +kernel) (by decide +kernel))
theorem ini_X0 : Cond.initialized RX0 ∈ gtbl := (gw_of (i := 96) (by decide +kernel) (by decide +kernel))
theorem ini_X8 : Cond.initialized RX8 ∈ gtbl := (gw_of (i := 97) (by decide +kernel) (by decide +kernel))
theorem ini_X10 : Cond.initialized RX10 ∈ gtbl := (gw_of (i := 98) (by decide +kernel) (by decide +kernel))
theorem ini_J0 : Cond.initialized RJ0 ∈ gtbl := (gw_of (i := 100) (by decide +kernel) (by decide +kernel))
theorem ini_J1 : Cond.initialized RJ1 ∈ gtbl := (gw_of (i := 101) (by decide +kernel) (by decide +kernel))
theorem ini_J3 : Cond.initialized RJ3 ∈ gtbl := (gw_of (i := 102) (by decide +kernel) (by decide +kernel))
theorem ini_J7 : Cond.initialized RJ7 ∈ gtbl := (gw_of (i := 104) (by decide +kernel) (by decide +kernel))
theorem ini_J10 : Cond.initialized RJ10 ∈ gtbl := (gw_of (i := 105) (by decide +kernel) (by decide +kernel))
theorem cl_L_7 : Cond.classLink RL 7 RX9 ∈ gtbl := (gw_of (i := 106) (by decide +kernel) (by decide +kernel))
theorem in_X9 : Cond.instantiable RX9 14 ∈ gtbl := (gw_of (i := 107) (by decide +kernel) (by decide +kernel))
theorem ml_L_9 : Cond.methodLink RL 9 yX9_init ∈ gtbl := (gw_of (i := 108) (by decide +kernel) (by decide +kernel))
theorem ml_X9_3 : Cond.methodLink RX9 3 objectInit ∈ gtbl := (gw_of (i := 111) (by decide +kernel) (by decide +kernel))
theorem cl_X9_9 : Cond.classLink RX9 9 RX6 ∈ gtbl := (gw_of (i := 114) (by decide +kernel) (by decide +kernel))
theorem in_X6 : Cond.instantiable RX6 2 ∈ gtbl := (gw_of (i := 115) (by decide +kernel) (by decide +kernel))
theorem ml_X6_3 : Cond.methodLink RX6 3 objectInit ∈ gtbl := (gw_of (i := 119) (by decide +kernel) (by decide +kernel))
theorem ac_byte : Cond.arrayClass .byte ∈ gtbl := (gw_of (i := 127) (by decide +kernel) (by decide +kernel))
theorem cl_X9_16 : Cond.classLink RX9 16 RX2 ∈ gtbl := (gw_of (i := 128) (by decide +kernel) (by decide +kernel))
theorem in_X2 : Cond.instantiable RX2 3 ∈ gtbl := (gw_of (i := 129) (by decide +kernel) (by decide +kernel))
theorem ml_X2_3 : Cond.methodLink RX2 3 objectInit ∈ gtbl := (gw_of (i := 133) (by decide +kernel) (by decide +kernel))
theorem ac_int : Cond.arrayClass .int ∈ gtbl := (gw_of (i := 144) (by decide +kernel) (by decide +kernel))
theorem cl_X9_26 : Cond.classLink RX9 26 RX3 ∈ gtbl := (gw_of (i := 145) (by decide +kernel) (by decide +kernel))
theorem in_X3 : Cond.instantiable RX3 9 ∈ gtbl := (gw_of (i := 146) (by decide +kernel) (by decide +kernel))
theorem ml_X9_28 : Cond.methodLink RX9 28 yX3_init ∈ gtbl := (gw_of (i := 147) (by decide +kernel) (by decide +kernel))
theorem ml_X3_3 : Cond.methodLink RX3 3 objectInit ∈ gtbl := (gw_of (i := 150) (by decide +kernel) (by decide +kernel))
theorem cl_X3_9 : Cond.classLink RX3 9 RX7 ∈ gtbl := (gw_of (i := 151) (by decide +kernel) (by decide +kernel))
theorem in_X7 : Cond.instantiable RX7 5 ∈ gtbl := (gw_of (i := 152) (by decide +kernel) (by decide +kernel))
theorem ml_X7_3 : Cond.methodLink RX7 3 objectInit ∈ gtbl := (gw_of (i := 156) (by decide +kernel) (by decide +kernel))
theorem cl_X9_35 : Cond.classLink RX9 35 RX5 ∈ gtbl := (gw_of (i := 201) (by decide +kernel) (by decide +kernel))
theorem in_X5 : Cond.instantiable RX5 2 ∈ gtbl := (gw_of (i := 202) (by decide +kernel) (by decide +kernel))
theorem ml_X9_37 : Cond.methodLink RX9 37 yX5_init ∈ gtbl := (gw_of (i := 203) (by decide +kernel) (by decide +kernel))
theorem ml_X5_3 : Cond.methodLink RX5 3 objectInit ∈ gtbl := (gw_of (i := 206) (by decide +kernel) (by decide +kernel))
theorem cl_X5_9 : Cond.classLink RX5 9 RX2 ∈ gtbl := (gw_of (i := 207) (by decide +kernel) (by decide +kernel))
theorem cl_X9_42 : Cond.classLink RX9 42 RX4 ∈ gtbl := (gw_of (i := 217) (by decide +kernel) (by decide +kernel))
theorem in_X4 : Cond.instantiable RX4 4 ∈ gtbl := (gw_of (i := 218) (by decide +kernel) (by decide +kernel))
theorem ml_X4_3 : Cond.methodLink RX4 3 objectInit ∈ gtbl := (gw_of (i := 222) (by decide +kernel) (by decide +kernel))
theorem cl_X9_49 : Cond.classLink RX9 49 RX1 ∈ gtbl := (gw_of (i := 236) (by decide +kernel) (by decide +kernel))
theorem in_X1 : Cond.instantiable RX1 6 ∈ gtbl := (gw_of (i := 237) (by decide +kernel) (by decide +kernel))
theorem ml_X9_51 : Cond.methodLink RX9 51 yX1_init ∈ gtbl := (gw_of (i := 238) (by decide +kernel) (by decide +kernel))
theorem ml_X1_3 : Cond.methodLink RX1 3 objectInit ∈ gtbl := (gw_of (i := 241) (by decide +kernel) (by decide +kernel))
theorem cl_X9_58 : Cond.classLink RX9 58 RX0 ∈ gtbl := (gw_of (i := 261) (by decide +kernel) (by decide +kernel))
theorem in_X0 : Cond.instantiable RX0 5 ∈ gtbl := (gw_of (i := 262) (by decide +kernel) (by decide +kernel))
theorem ml_X9_60 : Cond.methodLink RX9 60 yX0_init ∈ gtbl := (gw_of (i := 263) (by decide +kernel) (by decide +kernel))
theorem ml_X0_3 : Cond.methodLink RX0 3 objectInit ∈ gtbl := (gw_of (i := 266) (by decide +kernel) (by decide +kernel))
theorem cl_X9_67 : Cond.classLink RX9 67 RX8 ∈ gtbl := (gw_of (i := 283) (by decide +kernel) (by decide +kernel))
theorem in_X8 : Cond.instantiable RX8 18 ∈ gtbl := (gw_of (i := 284) (by decide +kernel) (by decide +kernel))
theorem ml_X9_69 : Cond.methodLink RX9 69 yX8_init ∈ gtbl := (gw_of (i := 285) (by decide +kernel) (by decide +kernel))
theorem ml_X8_3 : Cond.methodLink RX8 3 objectInit ∈ gtbl := (gw_of (i := 288) (by decide +kernel) (by decide +kernel))
theorem ml_L_13 : Cond.methodLink RL 13 yX9_type ∈ gtbl := (gw_of (i := 387) (by decide +kernel) (by decide +kernel))
theorem ml_X9_76 : Cond.methodLink RX9 76 yX9_isOutside ∈ gtbl := (gw_of (i := 391) (by decide +kernel) (by decide +kernel))
theorem ml_X9_80 : Cond.methodLink RX9 80 yX9_refusedAsBad ∈ gtbl := (gw_of (i := 394) (by decide +kernel) (by decide +kernel))
theorem ml_X9_84 : Cond.methodLink RX9 84 yX6_isFull ∈ gtbl := (gw_of (i := 398) (by decide +kernel) (by decide +kernel))
theorem ml_X9_88 : Cond.methodLink RX9 88 yX9_refusedAsFull ∈ gtbl := (gw_of (i := 402) (by decide +kernel) (by decide +kernel))
theorem ml_X9_91 : Cond.methodLink RX9 91 yX6_append ∈ gtbl := (gw_of (i := 406) (by decide +kernel) (by decide +kernel))
theorem ml_X9_95 : Cond.methodLink RX9 95 yX6_length ∈ gtbl := (gw_of (i := 410) (by decide +kernel) (by decide +kernel))
theorem ml_L_18 : Cond.methodLink RL 18 yX9_clear ∈ gtbl := (gw_of (i := 414) (by decide +kernel) (by decide +kernel))
theorem ml_X9_98 : Cond.methodLink RX9 98 yX6_empty ∈ gtbl := (gw_of (i := 418) (by decide +kernel) (by decide +kernel))
theorem ml_L_23 : Cond.methodLink RL 23 yX9_reads ∈ gtbl := (gw_of (i := 422) (by decide +kernel) (by decide +kernel))
theorem ml_X9_101 : Cond.methodLink RX9 101 yX3_readAll ∈ gtbl := (gw_of (i := 426) (by decide +kernel) (by decide +kernel))
theorem ml_X3_34 : Cond.methodLink RX3 34 yX7_cut ∈ gtbl := (gw_of (i := 430) (by decide +kernel) (by decide +kernel))
theorem ml_X7_28 : Cond.methodLink RX7 28 yX6_length ∈ gtbl := (gw_of (i := 434) (by decide +kernel) (by decide +kernel))
theorem ml_X7_34 : Cond.methodLink RX7 34 yX7_lettersFrom ∈ gtbl := (gw_of (i := 435) (by decide +kernel) (by decide +kernel))
theorem ml_X7_44 : Cond.methodLink RX7 44 yX6_at ∈ gtbl := (gw_of (i := 438) (by decide +kernel) (by decide +kernel))
theorem ml_X7_38 : Cond.methodLink RX7 38 ⟨"java/lang/Math", "max", "(II)I"⟩ ∈ gtbl := (gw_of (i := 443) (by decide +kernel) (by decide +kernel))
theorem ml_X7_48 : Cond.methodLink RX7 48 yX7_wordKind ∈ gtbl := (gw_of (i := 446) (by decide +kernel) (by decide +kernel))
theorem ml_X7_58 : Cond.methodLink RX7 58 yX7_spells ∈ gtbl := (gw_of (i := 450) (by decide +kernel) (by decide +kernel))
theorem ml_X7_64 : Cond.methodLink RX7 64 yJ0_length_8abf5 ∈ gtbl := (gw_of (i := 453) (by decide +kernel) (by decide +kernel))
theorem ml_J0_335 : Cond.methodLink RJ0 335 yJ0_coder_7d493 ∈ gtbl := (gw_of (i := 457) (by decide +kernel) (by decide +kernel))
theorem ml_X7_67 : Cond.methodLink RX7 67 yJ0_charAt_5068e ∈ gtbl := (gw_of (i := 463) (by decide +kernel) (by decide +kernel))
theorem ml_J0_492 : Cond.methodLink RJ0 492 yJ0_isLatin1_aae02 ∈ gtbl := (gw_of (i := 467) (by decide +kernel) (by decide +kernel))
theorem ml_J0_495 : Cond.methodLink RJ0 495 yJ1_charAt_3b067 ∈ gtbl := (gw_of (i := 471) (by decide +kernel) (by decide +kernel))
theorem ml_J1_9 : Cond.methodLink RJ1 9 yJ0_checkIndex_df160 ∈ gtbl := (gw_of (i := 474) (by decide +kernel) (by decide +kernel))
theorem ml_J0_1059 : Cond.methodLink RJ0 1059 yJ3_checkIndex_8e157 ∈ gtbl := (gw_of (i := 479) (by decide +kernel) (by decide +kernel))
theorem ml_J0_498 : Cond.methodLink RJ0 498 ⟨"java/lang/StringUTF16", "charAt", "([BI)C"⟩ ∈ gtbl := (gw_of (i := 482) (by decide +kernel) (by decide +kernel))
theorem ml_X7_52 : Cond.methodLink RX7 52 yX7_add ∈ gtbl := (gw_of (i := 502) (by decide +kernel) (by decide +kernel))
theorem ml_X3_38 : Cond.methodLink RX3 38 yX2_becomeNone ∈ gtbl := (gw_of (i := 506) (by decide +kernel) (by decide +kernel))
theorem ml_X3_43 : Cond.methodLink RX3 43 yJ7_fill_53178 ∈ gtbl := (gw_of (i := 510) (by decide +kernel) (by decide +kernel))
theorem ml_X3_49 : Cond.methodLink RX3 49 yX7_ahead ∈ gtbl := (gw_of (i := 513) (by decide +kernel) (by decide +kernel))
theorem ml_X3_53 : Cond.methodLink RX3 53 yX3_readMethod ∈ gtbl := (gw_of (i := 517) (by decide +kernel) (by decide +kernel))
theorem ml_X3_66 : Cond.methodLink RX3 66 yX2_addMethod ∈ gtbl := (gw_of (i := 521) (by decide +kernel) (by decide +kernel))
theorem ml_X3_57 : Cond.methodLink RX3 57 yX3_take ∈ gtbl := (gw_of (i := 525) (by decide +kernel) (by decide +kernel))
theorem ml_X3_107 : Cond.methodLink RX3 107 yX7_step ∈ gtbl := (gw_of (i := 529) (by decide +kernel) (by decide +kernel))
theorem ml_X3_110 : Cond.methodLink RX3 110 yX3_refuse ∈ gtbl := (gw_of (i := 533) (by decide +kernel) (by decide +kernel))
theorem ml_X3_104 : Cond.methodLink RX3 104 yX7_place ∈ gtbl := (gw_of (i := 537) (by decide +kernel) (by decide +kernel))
theorem ml_X3_69 : Cond.methodLink RX3 69 yX3_readLine ∈ gtbl := (gw_of (i := 541) (by decide +kernel) (by decide +kernel))
theorem ml_X3_88 : Cond.methodLink RX3 88 yX3_takeName ∈ gtbl := (gw_of (i := 545) (by decide +kernel) (by decide +kernel))
theorem ml_X3_113 : Cond.methodLink RX3 113 yX3_nameOf ∈ gtbl := (gw_of (i := 549) (by decide +kernel) (by decide +kernel))
theorem ml_X3_91 : Cond.methodLink RX3 91 yX3_readPut ∈ gtbl := (gw_of (i := 552) (by decide +kernel) (by decide +kernel))
theorem ml_X3_94 : Cond.methodLink RX3 94 yX3_readValue ∈ gtbl := (gw_of (i := 556) (by decide +kernel) (by decide +kernel))
theorem ml_X3_97 : Cond.methodLink RX3 97 yX3_noteCall ∈ gtbl := (gw_of (i := 560) (by decide +kernel) (by decide +kernel))
theorem ml_X3_84 : Cond.methodLink RX3 84 yX2_addLine ∈ gtbl := (gw_of (i := 565) (by decide +kernel) (by decide +kernel))
theorem ml_X2_22 : Cond.methodLink RX2 22 yX2_has ∈ gtbl := (gw_of (i := 569) (by decide +kernel) (by decide +kernel))
theorem ml_X3_60 : Cond.methodLink RX3 60 yX3_firstMissingCall ∈ gtbl := (gw_of (i := 573) (by decide +kernel) (by decide +kernel))
theorem ml_X3_63 : Cond.methodLink RX3 63 yX2_count ∈ gtbl := (gw_of (i := 577) (by decide +kernel) (by decide +kernel))
theorem ml_X9_104 : Cond.methodLink RX9 104 yX9_leaveState ∈ gtbl := (gw_of (i := 581) (by decide +kernel) (by decide +kernel))
theorem ml_X9_272 : Cond.methodLink RX9 272 yX5_keep ∈ gtbl := (gw_of (i := 585) (by decide +kernel) (by decide +kernel))
theorem ml_X5_22 : Cond.methodLink RX5 22 yX5_loseOldest ∈ gtbl := (gw_of (i := 589) (by decide +kernel) (by decide +kernel))
theorem ml_X5_25 : Cond.methodLink RX5 25 yX2_becomeLike ∈ gtbl := (gw_of (i := 593) (by decide +kernel) (by decide +kernel))
theorem ml_X2_43 : Cond.methodLink RX2 43 ⟨RJ10, "arraycopy", "(Ljava/lang/Object;ILjava/lang/Object;II)V"⟩ ∈ gtbl := (gw_of (i := 597) (by decide +kernel) (by decide +kernel))
theorem ml_X9_178 : Cond.methodLink RX9 178 yX9_forgetFindings ∈ gtbl := (gw_of (i := 600) (by decide +kernel) (by decide +kernel))
theorem ml_X9_107 : Cond.methodLink RX9 107 yX2_becomeLike ∈ gtbl := (gw_of (i := 604) (by decide +kernel) (by decide +kernel))
theorem ml_X9_111 : Cond.methodLink RX9 111 yX2_count ∈ gtbl := (gw_of (i := 605) (by decide +kernel) (by decide +kernel))
theorem ml_L_27 : Cond.methodLink RL 27 yX9_drops ∈ gtbl := (gw_of (i := 606) (by decide +kernel) (by decide +kernel))
theorem ml_X9_114 : Cond.methodLink RX9 114 yX2_hasLine ∈ gtbl := (gw_of (i := 610) (by decide +kernel) (by decide +kernel))
theorem ml_X2_26 : Cond.methodLink RX2 26 yX2_lines ∈ gtbl := (gw_of (i := 614) (by decide +kernel) (by decide +kernel))
theorem ml_X9_117 : Cond.methodLink RX9 117 yX2_removeLine ∈ gtbl := (gw_of (i := 618) (by decide +kernel) (by decide +kernel))
theorem ml_X2_39 : Cond.methodLink RX2 39 yX2_hasLine ∈ gtbl := (gw_of (i := 622) (by decide +kernel) (by decide +kernel))
theorem ml_X9_121 : Cond.methodLink RX9 121 yX2_lines ∈ gtbl := (gw_of (i := 623) (by decide +kernel) (by decide +kernel))
theorem ml_L_32 : Cond.methodLink RL 32 yX9_swaps ∈ gtbl := (gw_of (i := 624) (by decide +kernel) (by decide +kernel))
theorem ml_X9_125 : Cond.methodLink RX9 125 yX2_swapWithNext ∈ gtbl := (gw_of (i := 628) (by decide +kernel) (by decide +kernel))
theorem ml_L_36 : Cond.methodLink RL 36 yX9_of ∈ gtbl := (gw_of (i := 632) (by decide +kernel) (by decide +kernel))
theorem ml_X9_128 : Cond.methodLink RX9 128 yX2_has ∈ gtbl := (gw_of (i := 636) (by decide +kernel) (by decide +kernel))
theorem ml_X9_132 : Cond.methodLink RX9 132 yX9_findMays ∈ gtbl := (gw_of (i := 637) (by decide +kernel) (by decide +kernel))
theorem ml_X9_282 : Cond.methodLink RX9 282 yX4_number ∈ gtbl := (gw_of (i := 641) (by decide +kernel) (by decide +kernel))
theorem ml_X4_29 : Cond.methodLink RX4 29 yJ7_fill_53178 ∈ gtbl := (gw_of (i := 645) (by decide +kernel) (by decide +kernel))
theorem ml_X4_35 : Cond.methodLink RX4 35 yX2_count ∈ gtbl := (gw_of (i := 646) (by decide +kernel) (by decide +kernel))
theorem ml_X4_40 : Cond.methodLink RX4 40 yX2_lines ∈ gtbl := (gw_of (i := 647) (by decide +kernel) (by decide +kernel))
theorem ml_X4_44 : Cond.methodLink RX4 44 yX2_sort ∈ gtbl := (gw_of (i := 648) (by decide +kernel) (by decide +kernel))
theorem ml_X2_29 : Cond.methodLink RX2 29 yX2_code ∈ gtbl := (gw_of (i := 652) (by decide +kernel) (by decide +kernel))
theorem ml_X4_48 : Cond.methodLink RX4 48 yX4_add ∈ gtbl := (gw_of (i := 656) (by decide +kernel) (by decide +kernel))
theorem ml_X9_285 : Cond.methodLink RX9 285 yX1_find ∈ gtbl := (gw_of (i := 660) (by decide +kernel) (by decide +kernel))
theorem ml_X1_38 : Cond.methodLink RX1 38 yJ7_fill_53178 ∈ gtbl := (gw_of (i := 664) (by decide +kernel) (by decide +kernel))
theorem ml_X1_48 : Cond.methodLink RX1 48 yX2_count ∈ gtbl := (gw_of (i := 665) (by decide +kernel) (by decide +kernel))
theorem ml_X1_54 : Cond.methodLink RX1 54 yX2_lines ∈ gtbl := (gw_of (i := 666) (by decide +kernel) (by decide +kernel))
theorem ml_X1_57 : Cond.methodLink RX1 57 yX1_addByLine ∈ gtbl := (gw_of (i := 667) (by decide +kernel) (by decide +kernel))
theorem ml_X1_61 : Cond.methodLink RX1 61 yX2_name ∈ gtbl := (gw_of (i := 671) (by decide +kernel) (by decide +kernel))
theorem ml_X1_65 : Cond.methodLink RX1 65 yX2_other ∈ gtbl := (gw_of (i := 675) (by decide +kernel) (by decide +kernel))
theorem ml_X1_68 : Cond.methodLink RX1 68 yX1_inName ∈ gtbl := (gw_of (i := 679) (by decide +kernel) (by decide +kernel))
theorem ml_X1_71 : Cond.methodLink RX1 71 yX2_sort ∈ gtbl := (gw_of (i := 684) (by decide +kernel) (by decide +kernel))
theorem ml_X1_74 : Cond.methodLink RX1 74 yX4_ofLine ∈ gtbl := (gw_of (i := 685) (by decide +kernel) (by decide +kernel))
theorem ml_X1_79 : Cond.methodLink RX1 79 yX1_addToName ∈ gtbl := (gw_of (i := 690) (by decide +kernel) (by decide +kernel))
theorem ml_X1_83 : Cond.methodLink RX1 83 yX1_addToFields ∈ gtbl := (gw_of (i := 694) (by decide +kernel) (by decide +kernel))
theorem ml_X1_93 : Cond.methodLink RX1 93 yX4_count ∈ gtbl := (gw_of (i := 698) (by decide +kernel) (by decide +kernel))
theorem ml_X1_34 : Cond.methodLink RX1 34 yX1_inFields ∈ gtbl := (gw_of (i := 702) (by decide +kernel) (by decide +kernel))
theorem ml_X1_86 : Cond.methodLink RX1 86 yX1_addToOpenPlace ∈ gtbl := (gw_of (i := 706) (by decide +kernel) (by decide +kernel))
theorem ml_X1_90 : Cond.methodLink RX1 90 yX2_callee ∈ gtbl := (gw_of (i := 710) (by decide +kernel) (by decide +kernel))
theorem ml_X9_288 : Cond.methodLink RX9 288 yX0_find ∈ gtbl := (gw_of (i := 714) (by decide +kernel) (by decide +kernel))
theorem ml_X0_44 : Cond.methodLink RX0 44 yX1_inOpenPlace ∈ gtbl := (gw_of (i := 718) (by decide +kernel) (by decide +kernel))
theorem ml_X0_49 : Cond.methodLink RX0 49 yX1_reachedFrom ∈ gtbl := (gw_of (i := 722) (by decide +kernel) (by decide +kernel))
theorem ml_X0_52 : Cond.methodLink RX0 52 yX2_count ∈ gtbl := (gw_of (i := 726) (by decide +kernel) (by decide +kernel))
theorem ml_X0_55 : Cond.methodLink RX0 55 yX1_inName ∈ gtbl := (gw_of (i := 727) (by decide +kernel) (by decide +kernel))
theorem ml_X0_59 : Cond.methodLink RX0 59 yX0_giveFates ∈ gtbl := (gw_of (i := 728) (by decide +kernel) (by decide +kernel))
theorem ml_X0_34 : Cond.methodLink RX0 34 yX4_count ∈ gtbl := (gw_of (i := 732) (by decide +kernel) (by decide +kernel))
theorem ml_X0_40 : Cond.methodLink RX0 40 yX4_methodOf ∈ gtbl := (gw_of (i := 733) (by decide +kernel) (by decide +kernel))
theorem ml_X0_69 : Cond.methodLink RX0 69 yX0_fateOf ∈ gtbl := (gw_of (i := 737) (by decide +kernel) (by decide +kernel))
theorem ml_X0_63 : Cond.methodLink RX0 63 yX0_allKept ∈ gtbl := (gw_of (i := 740) (by decide +kernel) (by decide +kernel))
theorem ml_X0_66 : Cond.methodLink RX0 66 yX0_idleAmong ∈ gtbl := (gw_of (i := 744) (by decide +kernel) (by decide +kernel))
theorem ml_X0_72 : Cond.methodLink RX0 72 yX2_lines ∈ gtbl := (gw_of (i := 748) (by decide +kernel) (by decide +kernel))
theorem ml_X0_75 : Cond.methodLink RX0 75 yX2_name ∈ gtbl := (gw_of (i := 749) (by decide +kernel) (by decide +kernel))
theorem ml_X0_78 : Cond.methodLink RX0 78 yX2_sort ∈ gtbl := (gw_of (i := 750) (by decide +kernel) (by decide +kernel))
theorem ml_X9_135 : Cond.methodLink RX9 135 yX9_ofMethod ∈ gtbl := (gw_of (i := 751) (by decide +kernel) (by decide +kernel))
theorem ml_X9_195 : Cond.methodLink RX9 195 yX4_inMethod ∈ gtbl := (gw_of (i := 755) (by decide +kernel) (by decide +kernel))
theorem ml_X9_198 : Cond.methodLink RX9 198 yX0_keptIn ∈ gtbl := (gw_of (i := 759) (by decide +kernel) (by decide +kernel))
theorem ml_X9_201 : Cond.methodLink RX9 201 yX0_idleLines ∈ gtbl := (gw_of (i := 763) (by decide +kernel) (by decide +kernel))
theorem ml_X9_204 : Cond.methodLink RX9 204 yX2_calledBy ∈ gtbl := (gw_of (i := 768) (by decide +kernel) (by decide +kernel))
theorem ml_X2_33 : Cond.methodLink RX2 33 yX2_sort ∈ gtbl := (gw_of (i := 772) (by decide +kernel) (by decide +kernel))
theorem ml_X2_36 : Cond.methodLink RX2 36 yX2_callee ∈ gtbl := (gw_of (i := 773) (by decide +kernel) (by decide +kernel))
theorem ml_L_40 : Cond.methodLink RL 40 yX9_line ∈ gtbl := (gw_of (i := 774) (by decide +kernel) (by decide +kernel))
theorem ml_X9_139 : Cond.methodLink RX9 139 yX9_ofLine ∈ gtbl := (gw_of (i := 778) (by decide +kernel) (by decide +kernel))
theorem ml_X9_207 : Cond.methodLink RX9 207 yX2_sort ∈ gtbl := (gw_of (i := 782) (by decide +kernel) (by decide +kernel))
theorem ml_X9_210 : Cond.methodLink RX9 210 yX2_name ∈ gtbl := (gw_of (i := 783) (by decide +kernel) (by decide +kernel))
theorem ml_X9_213 : Cond.methodLink RX9 213 yX2_hasOther ∈ gtbl := (gw_of (i := 784) (by decide +kernel) (by decide +kernel))
theorem ml_X9_216 : Cond.methodLink RX9 216 yX2_other ∈ gtbl := (gw_of (i := 788) (by decide +kernel) (by decide +kernel))
theorem ml_X9_219 : Cond.methodLink RX9 219 yX2_callee ∈ gtbl := (gw_of (i := 789) (by decide +kernel) (by decide +kernel))
theorem ml_X9_222 : Cond.methodLink RX9 222 yX4_ofLine ∈ gtbl := (gw_of (i := 790) (by decide +kernel) (by decide +kernel))
theorem ml_L_45 : Cond.methodLink RL 45 yX9_site ∈ gtbl := (gw_of (i := 791) (by decide +kernel) (by decide +kernel))
theorem ml_X9_143 : Cond.methodLink RX9 143 yX4_count ∈ gtbl := (gw_of (i := 795) (by decide +kernel) (by decide +kernel))
theorem ml_X9_144 : Cond.methodLink RX9 144 yX9_ofSite ∈ gtbl := (gw_of (i := 796) (by decide +kernel) (by decide +kernel))
theorem ml_X9_224 : Cond.methodLink RX9 224 yX4_methodOf ∈ gtbl := (gw_of (i := 800) (by decide +kernel) (by decide +kernel))
theorem ml_X9_227 : Cond.methodLink RX9 227 yX4_lineOf ∈ gtbl := (gw_of (i := 801) (by decide +kernel) (by decide +kernel))
theorem ml_X9_230 : Cond.methodLink RX9 230 yX0_ofSite ∈ gtbl := (gw_of (i := 805) (by decide +kernel) (by decide +kernel))
theorem ml_X9_232 : Cond.methodLink RX9 232 yX1_inField ∈ gtbl := (gw_of (i := 809) (by decide +kernel) (by decide +kernel))
theorem ml_L_49 : Cond.methodLink RL 49 yX9_may ∈ gtbl := (gw_of (i := 813) (by decide +kernel) (by decide +kernel))
theorem ml_X9_147 : Cond.methodLink RX9 147 yX1_inName ∈ gtbl := (gw_of (i := 817) (by decide +kernel) (by decide +kernel))
theorem ml_L_53 : Cond.methodLink RL 53 yX9_open ∈ gtbl := (gw_of (i := 818) (by decide +kernel) (by decide +kernel))
theorem ml_X9_150 : Cond.methodLink RX9 150 yX1_inOpenPlace ∈ gtbl := (gw_of (i := 822) (by decide +kernel) (by decide +kernel))
theorem ml_L_57 : Cond.methodLink RL 57 yX9_reached ∈ gtbl := (gw_of (i := 823) (by decide +kernel) (by decide +kernel))
theorem ml_X9_153 : Cond.methodLink RX9 153 yX1_reachedFrom ∈ gtbl := (gw_of (i := 827) (by decide +kernel) (by decide +kernel))
theorem ml_L_61 : Cond.methodLink RL 61 yX9_fates ∈ gtbl := (gw_of (i := 828) (by decide +kernel) (by decide +kernel))
theorem ml_X9_156 : Cond.methodLink RX9 156 yX0_countOf ∈ gtbl := (gw_of (i := 832) (by decide +kernel) (by decide +kernel))
theorem ml_L_65 : Cond.methodLink RL 65 yX9_run ∈ gtbl := (gw_of (i := 836) (by decide +kernel) (by decide +kernel))
theorem ml_X9_159 : Cond.methodLink RX9 159 yX9_findRun ∈ gtbl := (gw_of (i := 840) (by decide +kernel) (by decide +kernel))
theorem ml_X9_289 : Cond.methodLink RX9 289 yX8_start ∈ gtbl := (gw_of (i := 844) (by decide +kernel) (by decide +kernel))
theorem ml_X8_79 : Cond.methodLink RX8 79 yJ7_fill_53178 ∈ gtbl := (gw_of (i := 848) (by decide +kernel) (by decide +kernel))
theorem ml_X8_85 : Cond.methodLink RX8 85 yX2_has ∈ gtbl := (gw_of (i := 849) (by decide +kernel) (by decide +kernel))
theorem ml_X8_90 : Cond.methodLink RX8 90 yX8_callMethod ∈ gtbl := (gw_of (i := 850) (by decide +kernel) (by decide +kernel))
theorem ml_X8_94 : Cond.methodLink RX8 94 yX8_setName ∈ gtbl := (gw_of (i := 854) (by decide +kernel) (by decide +kernel))
theorem ml_X8_98 : Cond.methodLink RX8 98 yX2_lines ∈ gtbl := (gw_of (i := 859) (by decide +kernel) (by decide +kernel))
theorem ml_X8_102 : Cond.methodLink RX8 102 yX8_doLine ∈ gtbl := (gw_of (i := 860) (by decide +kernel) (by decide +kernel))
theorem ml_X8_112 : Cond.methodLink RX8 112 yX2_name ∈ gtbl := (gw_of (i := 864) (by decide +kernel) (by decide +kernel))
theorem ml_X8_105 : Cond.methodLink RX8 105 yX8_inName ∈ gtbl := (gw_of (i := 865) (by decide +kernel) (by decide +kernel))
theorem ml_X8_115 : Cond.methodLink RX8 115 yX2_other ∈ gtbl := (gw_of (i := 869) (by decide +kernel) (by decide +kernel))
theorem ml_X8_118 : Cond.methodLink RX8 118 yX2_sort ∈ gtbl := (gw_of (i := 870) (by decide +kernel) (by decide +kernel))
theorem ml_X8_121 : Cond.methodLink RX8 121 yX4_ofLine ∈ gtbl := (gw_of (i := 871) (by decide +kernel) (by decide +kernel))
theorem ml_X8_126 : Cond.methodLink RX8 126 yX8_newThing ∈ gtbl := (gw_of (i := 872) (by decide +kernel) (by decide +kernel))
theorem ml_X8_150 : Cond.methodLink RX8 150 yX8_makeMoreRoom ∈ gtbl := (gw_of (i := 876) (by decide +kernel) (by decide +kernel))
theorem ml_X8_153 : Cond.methodLink RX8 153 yJ7_copyOf_59c91 ∈ gtbl := (gw_of (i := 880) (by decide +kernel) (by decide +kernel))
theorem ml_J7_316 : Cond.methodLink RJ7 316 ⟨"[I", "clone", "()Ljava/lang/Object;"⟩ ∈ gtbl := (gw_of (i := 883) (by decide +kernel) (by decide +kernel))
theorem cl_J7_317 : Cond.classLink RJ7 317 "[I" ∈ gtbl := (gw_of (i := 889) (by decide +kernel) (by decide +kernel))
theorem ml_J7_304 : Cond.methodLink RJ7 304 ⟨"java/lang/Math", "min", "(II)I"⟩ ∈ gtbl := (gw_of (i := 890) (by decide +kernel) (by decide +kernel))
theorem ml_J7_150 : Cond.methodLink RJ7 150 ⟨RJ10, "arraycopy", "(Ljava/lang/Object;ILjava/lang/Object;II)V"⟩ ∈ gtbl := (gw_of (i := 893) (by decide +kernel) (by decide +kernel))
theorem ml_X8_129 : Cond.methodLink RX8 129 yX8_putIntoField ∈ gtbl := (gw_of (i := 894) (by decide +kernel) (by decide +kernel))
theorem ml_X8_75 : Cond.methodLink RX8 75 yX8_isThing ∈ gtbl := (gw_of (i := 898) (by decide +kernel) (by decide +kernel))
theorem ml_X8_133 : Cond.methodLink RX8 133 yX8_takeFromField ∈ gtbl := (gw_of (i := 902) (by decide +kernel) (by decide +kernel))
theorem ml_X8_136 : Cond.methodLink RX8 136 yX0_idleLines ∈ gtbl := (gw_of (i := 906) (by decide +kernel) (by decide +kernel))
theorem ml_X8_141 : Cond.methodLink RX8 141 yX8_lock ∈ gtbl := (gw_of (i := 907) (by decide +kernel) (by decide +kernel))
theorem ml_X8_144 : Cond.methodLink RX8 144 yX8_callFrom ∈ gtbl := (gw_of (i := 911) (by decide +kernel) (by decide +kernel))
theorem ml_X8_147 : Cond.methodLink RX8 147 yX2_callee ∈ gtbl := (gw_of (i := 915) (by decide +kernel) (by decide +kernel))
theorem ml_X8_108 : Cond.methodLink RX8 108 yX8_findLeaks ∈ gtbl := (gw_of (i := 916) (by decide +kernel) (by decide +kernel))
theorem ml_X8_157 : Cond.methodLink RX8 157 yX4_inMethod ∈ gtbl := (gw_of (i := 920) (by decide +kernel) (by decide +kernel))
theorem ml_X8_160 : Cond.methodLink RX8 160 yX8_followFrom ∈ gtbl := (gw_of (i := 921) (by decide +kernel) (by decide +kernel))
theorem ml_X9_162 : Cond.methodLink RX9 162 yX9_ofRun ∈ gtbl := (gw_of (i := 925) (by decide +kernel) (by decide +kernel))
theorem ml_X9_235 : Cond.methodLink RX9 235 yX8_failed ∈ gtbl := (gw_of (i := 929) (by decide +kernel) (by decide +kernel))
theorem ml_X9_238 : Cond.methodLink RX9 238 yX8_made ∈ gtbl := (gw_of (i := 933) (by decide +kernel) (by decide +kernel))
theorem ml_X9_241 : Cond.methodLink RX9 241 yX8_locks ∈ gtbl := (gw_of (i := 937) (by decide +kernel) (by decide +kernel))
theorem ml_X9_244 : Cond.methodLink RX9 244 yX8_idleLocks ∈ gtbl := (gw_of (i := 941) (by decide +kernel) (by decide +kernel))
theorem ml_X9_247 : Cond.methodLink RX9 247 yX8_calls ∈ gtbl := (gw_of (i := 945) (by decide +kernel) (by decide +kernel))
theorem ml_X9_250 : Cond.methodLink RX9 250 yX8_leaks ∈ gtbl := (gw_of (i := 949) (by decide +kernel) (by decide +kernel))
theorem ml_L_69 : Cond.methodLink RL 69 yX9_ran ∈ gtbl := (gw_of (i := 953) (by decide +kernel) (by decide +kernel))
theorem ml_X9_165 : Cond.methodLink RX9 165 yX9_ofSiteRun ∈ gtbl := (gw_of (i := 957) (by decide +kernel) (by decide +kernel))
theorem ml_X9_253 : Cond.methodLink RX9 253 yX8_madeOf ∈ gtbl := (gw_of (i := 961) (by decide +kernel) (by decide +kernel))
theorem ml_X9_256 : Cond.methodLink RX9 256 yX8_leaksOf ∈ gtbl := (gw_of (i := 965) (by decide +kernel) (by decide +kernel))
theorem ml_X9_259 : Cond.methodLink RX9 259 yX8_locksOf ∈ gtbl := (gw_of (i := 969) (by decide +kernel) (by decide +kernel))
theorem ml_L_73 : Cond.methodLink RL 73 yX9_held ∈ gtbl := (gw_of (i := 973) (by decide +kernel) (by decide +kernel))
theorem ml_X9_168 : Cond.methodLink RX9 168 yX8_siteInOpenPlace ∈ gtbl := (gw_of (i := 977) (by decide +kernel) (by decide +kernel))
theorem ml_L_77 : Cond.methodLink RL 77 yX9_back ∈ gtbl := (gw_of (i := 981) (by decide +kernel) (by decide +kernel))
theorem ml_X9_171 : Cond.methodLink RX9 171 yX5_count ∈ gtbl := (gw_of (i := 985) (by decide +kernel) (by decide +kernel))
theorem ml_X9_172 : Cond.methodLink RX9 172 yX9_refusedAsNo ∈ gtbl := (gw_of (i := 989) (by decide +kernel) (by decide +kernel))
theorem ml_X9_175 : Cond.methodLink RX9 175 yX5_giveBack ∈ gtbl := (gw_of (i := 993) (by decide +kernel) (by decide +kernel))
theorem ml_L_81 : Cond.methodLink RL 81 yX9_told ∈ gtbl := (gw_of (i := 997) (by decide +kernel) (by decide +kernel))
theorem ml_X9_181 : Cond.methodLink RX9 181 yX9_ofAll ∈ gtbl := (gw_of (i := 1001) (by decide +kernel) (by decide +kernel))
theorem ml_L_85 : Cond.methodLink RL 85 yX9_digest ∈ gtbl := (gw_of (i := 1005) (by decide +kernel) (by decide +kernel))
theorem kl_X9_184 : Cond.constantLong RX9 184 2503 ∈ gtbl := (gw_of (i := 1009) (by decide +kernel) (by decide +kernel))
theorem kl_X9_186 : Cond.constantLong RX9 186 31 ∈ gtbl := (gw_of (i := 1010) (by decide +kernel) (by decide +kernel))
theorem ml_X9_188 : Cond.methodLink RX9 188 yX9_digestWithMethod ∈ gtbl := (gw_of (i := 1011) (by decide +kernel) (by decide +kernel))
theorem ml_X9_192 : Cond.methodLink RX9 192 yX9_digestWithSite ∈ gtbl := (gw_of (i := 1015) (by decide +kernel) (by decide +kernel))
theorem cl_L_10 : Cond.classLink RL 10 RX10 ∈ gtbl := (gw_of (i := 1019) (by decide +kernel) (by decide +kernel))
theorem in_X10 : Cond.instantiable RX10 45 ∈ gtbl := (gw_of (i := 1020) (by decide +kernel) (by decide +kernel))
theorem ml_L_12 : Cond.methodLink RL 12 yX10_init ∈ gtbl := (gw_of (i := 1021) (by decide +kernel) (by decide +kernel))
theorem ml_X10_1 : Cond.methodLink RX10 1 objectInit ∈ gtbl := (gw_of (i := 1024) (by decide +kernel) (by decide +kernel))
theorem ml_L_17 : Cond.methodLink RL 17 yX10_type ∈ gtbl := (gw_of (i := 1161) (by decide +kernel) (by decide +kernel))
theorem ml_X10_99 : Cond.methodLink RX10 99 yX10_in ∈ gtbl := (gw_of (i := 1165) (by decide +kernel) (by decide +kernel))
theorem ml_X10_156 : Cond.methodLink RX10 156 yX10_refuse ∈ gtbl := (gw_of (i := 1168) (by decide +kernel) (by decide +kernel))
theorem ml_L_22 : Cond.methodLink RL 22 yX10_clear ∈ gtbl := (gw_of (i := 1172) (by decide +kernel) (by decide +kernel))
theorem ml_L_26 : Cond.methodLink RL 26 yX10_reads ∈ gtbl := (gw_of (i := 1176) (by decide +kernel) (by decide +kernel))
theorem ml_X10_159 : Cond.methodLink RX10 159 yX10_readText ∈ gtbl := (gw_of (i := 1180) (by decide +kernel) (by decide +kernel))
theorem ml_X10_117 : Cond.methodLink RX10 117 yX10_next ∈ gtbl := (gw_of (i := 1184) (by decide +kernel) (by decide +kernel))
theorem ml_X10_109 : Cond.methodLink RX10 109 yX10_isWordByte ∈ gtbl := (gw_of (i := 1188) (by decide +kernel) (by decide +kernel))
theorem ml_X10_113 : Cond.methodLink RX10 113 yX10_isWord ∈ gtbl := (gw_of (i := 1192) (by decide +kernel) (by decide +kernel))
theorem ml_X10_153 : Cond.methodLink RX10 153 yX10_readMethod ∈ gtbl := (gw_of (i := 1196) (by decide +kernel) (by decide +kernel))
theorem ml_X10_150 : Cond.methodLink RX10 150 yX10_readLine ∈ gtbl := (gw_of (i := 1200) (by decide +kernel) (by decide +kernel))
theorem ml_X10_120 : Cond.methodLink RX10 120 yX10_nameOf ∈ gtbl := (gw_of (i := 1204) (by decide +kernel) (by decide +kernel))
theorem ml_X10_140 : Cond.methodLink RX10 140 yX10_nextName ∈ gtbl := (gw_of (i := 1207) (by decide +kernel) (by decide +kernel))
theorem ml_X10_136 : Cond.methodLink RX10 136 yX10_isNext ∈ gtbl := (gw_of (i := 1211) (by decide +kernel) (by decide +kernel))
theorem ml_X10_147 : Cond.methodLink RX10 147 yX10_readRight ∈ gtbl := (gw_of (i := 1215) (by decide +kernel) (by decide +kernel))
theorem ml_X10_162 : Cond.methodLink RX10 162 yX10_note ∈ gtbl := (gw_of (i := 1219) (by decide +kernel) (by decide +kernel))
theorem ml_X10_89 : Cond.methodLink RX10 89 yX10_bring ∈ gtbl := (gw_of (i := 1223) (by decide +kernel) (by decide +kernel))
theorem ml_L_31 : Cond.methodLink RL 31 yX10_drops ∈ gtbl := (gw_of (i := 1226) (by decide +kernel) (by decide +kernel))
theorem ml_X10_171 : Cond.methodLink RX10 171 yX10_isLine ∈ gtbl := (gw_of (i := 1230) (by decide +kernel) (by decide +kernel))
theorem ml_X10_165 : Cond.methodLink RX10 165 yX10_isMethod ∈ gtbl := (gw_of (i := 1234) (by decide +kernel) (by decide +kernel))
theorem ml_X10_168 : Cond.methodLink RX10 168 yX10_linesOf ∈ gtbl := (gw_of (i := 1238) (by decide +kernel) (by decide +kernel))
theorem ml_L_35 : Cond.methodLink RL 35 yX10_swaps ∈ gtbl := (gw_of (i := 1242) (by decide +kernel) (by decide +kernel))
theorem ml_L_39 : Cond.methodLink RL 39 yX10_of ∈ gtbl := (gw_of (i := 1246) (by decide +kernel) (by decide +kernel))
theorem ml_X10_214 : Cond.methodLink RX10 214 yX10_findMays ∈ gtbl := (gw_of (i := 1250) (by decide +kernel) (by decide +kernel))
theorem ml_X10_196 : Cond.methodLink RX10 196 yX10_findSites ∈ gtbl := (gw_of (i := 1254) (by decide +kernel) (by decide +kernel))
theorem ml_X10_178 : Cond.methodLink RX10 178 yX10_lineAt ∈ gtbl := (gw_of (i := 1258) (by decide +kernel) (by decide +kernel))
theorem ml_X10_199 : Cond.methodLink RX10 199 yX10_goThrough ∈ gtbl := (gw_of (i := 1262) (by decide +kernel) (by decide +kernel))
theorem ml_X10_189 : Cond.methodLink RX10 189 yX10_add ∈ gtbl := (gw_of (i := 1266) (by decide +kernel) (by decide +kernel))
theorem ml_X10_186 : Cond.methodLink RX10 186 yX10_has ∈ gtbl := (gw_of (i := 1270) (by decide +kernel) (by decide +kernel))
theorem ml_X10_193 : Cond.methodLink RX10 193 yX10_fields ∈ gtbl := (gw_of (i := 1273) (by decide +kernel) (by decide +kernel))
theorem ml_X10_217 : Cond.methodLink RX10 217 yX10_ofMethod ∈ gtbl := (gw_of (i := 1277) (by decide +kernel) (by decide +kernel))
theorem ml_X10_211 : Cond.methodLink RX10 211 yX10_idleOf ∈ gtbl := (gw_of (i := 1281) (by decide +kernel) (by decide +kernel))
theorem ml_X10_208 : Cond.methodLink RX10 208 yX10_fated ∈ gtbl := (gw_of (i := 1285) (by decide +kernel) (by decide +kernel))
theorem ml_X10_205 : Cond.methodLink RX10 205 yX10_fateOf ∈ gtbl := (gw_of (i := 1289) (by decide +kernel) (by decide +kernel))
theorem ml_X10_202 : Cond.methodLink RX10 202 yX10_reachedFrom ∈ gtbl := (gw_of (i := 1293) (by decide +kernel) (by decide +kernel))
theorem ml_L_44 : Cond.methodLink RL 44 yX10_line ∈ gtbl := (gw_of (i := 1297) (by decide +kernel) (by decide +kernel))
theorem ml_X10_221 : Cond.methodLink RX10 221 yX10_ofLine ∈ gtbl := (gw_of (i := 1301) (by decide +kernel) (by decide +kernel))
theorem ml_L_48 : Cond.methodLink RL 48 yX10_site ∈ gtbl := (gw_of (i := 1305) (by decide +kernel) (by decide +kernel))
theorem ml_X10_224 : Cond.methodLink RX10 224 yX10_ofSite ∈ gtbl := (gw_of (i := 1309) (by decide +kernel) (by decide +kernel))
theorem ml_L_52 : Cond.methodLink RL 52 yX10_may ∈ gtbl := (gw_of (i := 1313) (by decide +kernel) (by decide +kernel))
theorem ml_L_56 : Cond.methodLink RL 56 yX10_open ∈ gtbl := (gw_of (i := 1317) (by decide +kernel) (by decide +kernel))
theorem ml_L_60 : Cond.methodLink RL 60 yX10_reached ∈ gtbl := (gw_of (i := 1321) (by decide +kernel) (by decide +kernel))
theorem ml_L_64 : Cond.methodLink RL 64 yX10_fates ∈ gtbl := (gw_of (i := 1325) (by decide +kernel) (by decide +kernel))
theorem ml_X10_227 : Cond.methodLink RX10 227 yX10_ones ∈ gtbl := (gw_of (i := 1329) (by decide +kernel) (by decide +kernel))
theorem ml_L_68 : Cond.methodLink RL 68 yX10_run ∈ gtbl := (gw_of (i := 1332) (by decide +kernel) (by decide +kernel))
theorem ml_X10_273 : Cond.methodLink RX10 273 yX10_goRun ∈ gtbl := (gw_of (i := 1336) (by decide +kernel) (by decide +kernel))
theorem ml_X10_267 : Cond.methodLink RX10 267 yX10_call ∈ gtbl := (gw_of (i := 1340) (by decide +kernel) (by decide +kernel))
theorem ml_X10_270 : Cond.methodLink RX10 270 yX10_step ∈ gtbl := (gw_of (i := 1344) (by decide +kernel) (by decide +kernel))
theorem ml_X10_254 : Cond.methodLink RX10 254 yX10_end ∈ gtbl := (gw_of (i := 1348) (by decide +kernel) (by decide +kernel))
theorem ml_X10_242 : Cond.methodLink RX10 242 yX10_follow ∈ gtbl := (gw_of (i := 1352) (by decide +kernel) (by decide +kernel))
theorem ml_X10_260 : Cond.methodLink RX10 260 yX10_make ∈ gtbl := (gw_of (i := 1356) (by decide +kernel) (by decide +kernel))
theorem ml_X10_263 : Cond.methodLink RX10 263 yX10_lock ∈ gtbl := (gw_of (i := 1360) (by decide +kernel) (by decide +kernel))
theorem ml_X10_276 : Cond.methodLink RX10 276 yX10_ofRun ∈ gtbl := (gw_of (i := 1364) (by decide +kernel) (by decide +kernel))
theorem ml_L_72 : Cond.methodLink RL 72 yX10_ran ∈ gtbl := (gw_of (i := 1368) (by decide +kernel) (by decide +kernel))
theorem ml_X10_279 : Cond.methodLink RX10 279 yX10_ranOf ∈ gtbl := (gw_of (i := 1372) (by decide +kernel) (by decide +kernel))
theorem ml_L_76 : Cond.methodLink RL 76 yX10_held ∈ gtbl := (gw_of (i := 1376) (by decide +kernel) (by decide +kernel))
theorem ml_X10_282 : Cond.methodLink RX10 282 yX10_heldNow ∈ gtbl := (gw_of (i := 1380) (by decide +kernel) (by decide +kernel))
theorem ml_L_80 : Cond.methodLink RL 80 yX10_back ∈ gtbl := (gw_of (i := 1384) (by decide +kernel) (by decide +kernel))
theorem ml_L_84 : Cond.methodLink RL 84 yX10_told ∈ gtbl := (gw_of (i := 1388) (by decide +kernel) (by decide +kernel))
theorem ml_X10_285 : Cond.methodLink RX10 285 yX10_toldOf ∈ gtbl := (gw_of (i := 1392) (by decide +kernel) (by decide +kernel))
theorem ml_L_89 : Cond.methodLink RL 89 yX10_digest ∈ gtbl := (gw_of (i := 1396) (by decide +kernel) (by decide +kernel))
theorem kl_X10_288 : Cond.constantLong RX10 288 2503 ∈ gtbl := (gw_of (i := 1400) (by decide +kernel) (by decide +kernel))
theorem kl_X10_290 : Cond.constantLong RX10 290 31 ∈ gtbl := (gw_of (i := 1401) (by decide +kernel) (by decide +kernel))
theorem oi_inst : Cond.instanceMethod objectInit ∈ gtbl := (gw_of (i := 112) (by decide +kernel) (by decide +kernel))
theorem oi_code : Cond.code objectInit ⟨#[0xb1]⟩ 1 none ∈ gtbl := (gw_of (i := 113) (by decide +kernel) (by decide +kernel))
theorem mmax_st : Cond.static Lib.Math.max.name ∈ gtbl := (gw_of (i := 444) (by decide +kernel) (by decide +kernel))
theorem mmax_code : Cond.code Lib.Math.max.name Lib.Math.max.code 2 (some .int) ∈ gtbl := (gw_of (i := 445) (by decide +kernel) (by decide +kernel))
theorem mmin_st : Cond.static Lib.Math.min.name ∈ gtbl := (gw_of (i := 891) (by decide +kernel) (by decide +kernel))
theorem mmin_code : Cond.code Lib.Math.min.name Lib.Math.min.code 2 (some .int) ∈ gtbl := (gw_of (i := 892) (by decide +kernel) (by decide +kernel))
theorem mth_ini : Cond.initialized "java/lang/Math" ∈ gtbl := (gw_of (i := 99) (by decide +kernel) (by decide +kernel))
theorem acp_nat : Cond.native arraycopyName ∈ gtbl := (gw_of (i := 599) (by decide +kernel) (by decide +kernel))
theorem acp_st : Cond.static arraycopyName ∈ gtbl := (gw_of (i := 598) (by decide +kernel) (by decide +kernel))
def nestL : List (String × Nat × MethodName × String) := [(RX9, 11, yX6_init, RX9), (RX9, 18, yX2_init, RX9), (RX3, 11, yX7_init, RX9), (RX5, 17, yX2_init, RX9), (RX9, 44, yX4_init, RX9), (RX6, 19, yX9_isOutside, RX9), (RX3, 100, yX9_isOutside, RX9), (RX1, 26, yX9_isOutside, RX9), (RX4, 25, yX9_isOutside, RX9), (RX0, 30, yX9_isOutside, RX9), (RX8, 71, yX9_isOutside, RX9)]
theorem nest_in : ∀ q ∈ nestL, Cond.methodLinkNest q.1 q.2.1 q.2.2.1 q.2.2.2 ∈ lw_tbl := by
  have h : nestL.map (fun q => Cond.methodLinkNest q.1 q.2.1 q.2.2.1 q.2.2.2) = [116, 130, 153, 209, 219, 442, 564, 683, 689, 767, 858].filterMap (fun i => lw_tbl[i]?) := by decide +kernel
  intro q hq
  have h1 : Cond.methodLinkNest q.1 q.2.1 q.2.2.1 q.2.2.2 ∈ nestL.map (fun q => Cond.methodLinkNest q.1 q.2.1 q.2.2.1 q.2.2.2) := List.mem_map.mpr ⟨q, hq, rfl⟩
  rw [h] at h1
  obtain ⟨i, -, hi⟩ := List.mem_filterMap.mp h1
  exact List.mem_of_getElem? hi
theorem nl_X9_11 : (RX9, 11, yX6_init, RX9) ∈ nestL := List.mem_of_getElem? (i := 0) rfl
theorem nl_X9_18 : (RX9, 18, yX2_init, RX9) ∈ nestL := List.mem_of_getElem? (i := 1) rfl
theorem nl_X3_11 : (RX3, 11, yX7_init, RX9) ∈ nestL := List.mem_of_getElem? (i := 2) rfl
theorem nl_X5_17 : (RX5, 17, yX2_init, RX9) ∈ nestL := List.mem_of_getElem? (i := 3) rfl
theorem nl_X9_44 : (RX9, 44, yX4_init, RX9) ∈ nestL := List.mem_of_getElem? (i := 4) rfl
theorem nl_X6_19 : (RX6, 19, yX9_isOutside, RX9) ∈ nestL := List.mem_of_getElem? (i := 5) rfl
theorem nl_X3_100 : (RX3, 100, yX9_isOutside, RX9) ∈ nestL := List.mem_of_getElem? (i := 6) rfl
theorem nl_X1_26 : (RX1, 26, yX9_isOutside, RX9) ∈ nestL := List.mem_of_getElem? (i := 7) rfl
theorem nl_X4_25 : (RX4, 25, yX9_isOutside, RX9) ∈ nestL := List.mem_of_getElem? (i := 8) rfl
theorem nl_X0_30 : (RX0, 30, yX9_isOutside, RX9) ∈ nestL := List.mem_of_getElem? (i := 9) rfl
theorem nl_X8_71 : (RX8, 71, yX9_isOutside, RX9) ∈ nestL := List.mem_of_getElem? (i := 10) rfl
/-- a field as an instruction of a class names it: the class's number, the field's place, final or not, its type -/
def FI (own : String) (idx ci k : Nat) (fin : Bool) (ty : FieldType) : Prop := ∃ (C : String) (T : u_T) (N : Nat), vwC[ci]? = some (C, T, N) ∧ k < N ∧ Cond.fieldLink own idx (T k).1 (T k).2.1 (T k).2.2.1 ∈ gtbl ∧ (T k).2.2.2 = fin ∧ parseFieldDescriptor (T k).2.2.1 = some ty ∧ (T k).1 = own
theorem fi_X6_9 : FI RX6 9 6 0 true (.array .byte) := ⟨RX6, TX6, 2, rfl, by decide, (gw_of (i := 120) (by decide +kernel) (by decide +kernel)), rfl, by decide +kernel, rfl⟩
theorem fi_X6_15 : FI RX6 15 6 1 false .int := ⟨RX6, TX6, 2, rfl, by decide, (gw_of (i := 121) (by decide +kernel) (by decide +kernel)), rfl, by decide +kernel, rfl⟩
theorem fi_X2_18 : FI RX2 18 2 0 false .int := ⟨RX2, TX2, 3, rfl, by decide, (gw_of (i := 134) (by decide +kernel) (by decide +kernel)), rfl, by decide +kernel, rfl⟩
theorem fi_X2_9 : FI RX2 9 2 1 true (.array .int) := ⟨RX2, TX2, 3, rfl, by decide, (gw_of (i := 135) (by decide +kernel) (by decide +kernel)), rfl, by decide +kernel, rfl⟩
theorem fi_X2_15 : FI RX2 15 2 2 true (.array .int) := ⟨RX2, TX2, 3, rfl, by decide, (gw_of (i := 136) (by decide +kernel) (by decide +kernel)), rfl, by decide +kernel, rfl⟩
theorem fi_X7_9 : FI RX7 9 7 0 true (.array .int) := ⟨RX7, TX7, 5, rfl, by decide, (gw_of (i := 157) (by decide +kernel) (by decide +kernel)), rfl, by decide +kernel, rfl⟩
theorem fi_X7_15 : FI RX7 15 7 1 true (.array .int) := ⟨RX7, TX7, 5, rfl, by decide, (gw_of (i := 158) (by decide +kernel) (by decide +kernel)), rfl, by decide +kernel, rfl⟩
theorem fi_X7_22 : FI RX7 22 7 2 false .int := ⟨RX7, TX7, 5, rfl, by decide, (gw_of (i := 159) (by decide +kernel) (by decide +kernel)), rfl, by decide +kernel, rfl⟩
theorem fi_X7_18 : FI RX7 18 7 3 false .int := ⟨RX7, TX7, 5, rfl, by decide, (gw_of (i := 160) (by decide +kernel) (by decide +kernel)), rfl, by decide +kernel, rfl⟩
theorem fi_X7_25 : FI RX7 25 7 4 false .int := ⟨RX7, TX7, 5, rfl, by decide, (gw_of (i := 161) (by decide +kernel) (by decide +kernel)), rfl, by decide +kernel, rfl⟩
theorem fi_X3_22 : FI RX3 22 3 0 true (.object "KeptInside$Text") := ⟨RX3, TX3, 9, rfl, by decide, (gw_of (i := 173) (by decide +kernel) (by decide +kernel)), rfl, by decide +kernel, rfl⟩
theorem fi_X3_26 : FI RX3 26 3 1 true (.object "KeptInside$Methods") := ⟨RX3, TX3, 9, rfl, by decide, (gw_of (i := 174) (by decide +kernel) (by decide +kernel)), rfl, by decide +kernel, rfl⟩
theorem fi_X3_12 : FI RX3 12 3 2 true (.object "KeptInside$Tokens") := ⟨RX3, TX3, 9, rfl, by decide, (gw_of (i := 175) (by decide +kernel) (by decide +kernel)), rfl, by decide +kernel, rfl⟩
theorem fi_X3_30 : FI RX3 30 3 3 false .int := ⟨RX3, TX3, 9, rfl, by decide, (gw_of (i := 176) (by decide +kernel) (by decide +kernel)), rfl, by decide +kernel, rfl⟩
theorem fi_X3_18 : FI RX3 18 3 4 true (.array .int) := ⟨RX3, TX3, 9, rfl, by decide, (gw_of (i := 177) (by decide +kernel) (by decide +kernel)), rfl, by decide +kernel, rfl⟩
theorem fi_X3_72 : FI RX3 72 3 5 false .int := ⟨RX3, TX3, 9, rfl, by decide, (gw_of (i := 178) (by decide +kernel) (by decide +kernel)), rfl, by decide +kernel, rfl⟩
theorem fi_X3_75 : FI RX3 75 3 6 false .int := ⟨RX3, TX3, 9, rfl, by decide, (gw_of (i := 179) (by decide +kernel) (by decide +kernel)), rfl, by decide +kernel, rfl⟩
theorem fi_X3_78 : FI RX3 78 3 7 false .int := ⟨RX3, TX3, 9, rfl, by decide, (gw_of (i := 180) (by decide +kernel) (by decide +kernel)), rfl, by decide +kernel, rfl⟩
theorem fi_X3_81 : FI RX3 81 3 8 false .int := ⟨RX3, TX3, 9, rfl, by decide, (gw_of (i := 181) (by decide +kernel) (by decide +kernel)), rfl, by decide +kernel, rfl⟩
theorem fi_X5_11 : FI RX5 11 5 0 true (.array (.object "KeptInside$Methods")) := ⟨RX5, TX5, 2, rfl, by decide, (gw_of (i := 210) (by decide +kernel) (by decide +kernel)), rfl, by decide +kernel, rfl⟩
theorem fi_X5_18 : FI RX5 18 5 1 false .int := ⟨RX5, TX5, 2, rfl, by decide, (gw_of (i := 211) (by decide +kernel) (by decide +kernel)), rfl, by decide +kernel, rfl⟩
theorem fi_X4_21 : FI RX4 21 4 0 false .int := ⟨RX4, TX4, 4, rfl, by decide, (gw_of (i := 223) (by decide +kernel) (by decide +kernel)), rfl, by decide +kernel, rfl⟩
theorem fi_X4_9 : FI RX4 9 4 1 true (.array .int) := ⟨RX4, TX4, 4, rfl, by decide, (gw_of (i := 224) (by decide +kernel) (by decide +kernel)), rfl, by decide +kernel, rfl⟩
theorem fi_X4_15 : FI RX4 15 4 2 true (.array .int) := ⟨RX4, TX4, 4, rfl, by decide, (gw_of (i := 225) (by decide +kernel) (by decide +kernel)), rfl, by decide +kernel, rfl⟩
theorem fi_X4_18 : FI RX4 18 4 3 true (.array .int) := ⟨RX4, TX4, 4, rfl, by decide, (gw_of (i := 226) (by decide +kernel) (by decide +kernel)), rfl, by decide +kernel, rfl⟩
theorem fi_X1_18 : FI RX1 18 1 0 true (.object "KeptInside$Methods") := ⟨RX1, TX1, 6, rfl, by decide, (gw_of (i := 242) (by decide +kernel) (by decide +kernel)), rfl, by decide +kernel, rfl⟩
theorem fi_X1_22 : FI RX1 22 1 1 true (.object "KeptInside$Sites") := ⟨RX1, TX1, 6, rfl, by decide, (gw_of (i := 243) (by decide +kernel) (by decide +kernel)), rfl, by decide +kernel, rfl⟩
theorem fi_X1_9 : FI RX1 9 1 2 true (.array .int) := ⟨RX1, TX1, 6, rfl, by decide, (gw_of (i := 244) (by decide +kernel) (by decide +kernel)), rfl, by decide +kernel, rfl⟩
theorem fi_X1_15 : FI RX1 15 1 3 true (.array .int) := ⟨RX1, TX1, 6, rfl, by decide, (gw_of (i := 245) (by decide +kernel) (by decide +kernel)), rfl, by decide +kernel, rfl⟩
theorem fi_X1_30 : FI RX1 30 1 4 false .int := ⟨RX1, TX1, 6, rfl, by decide, (gw_of (i := 246) (by decide +kernel) (by decide +kernel)), rfl, by decide +kernel, rfl⟩
theorem fi_X1_44 : FI RX1 44 1 5 false .boolean := ⟨RX1, TX1, 6, rfl, by decide, (gw_of (i := 247) (by decide +kernel) (by decide +kernel)), rfl, by decide +kernel, rfl⟩
theorem fi_X0_18 : FI RX0 18 0 0 true (.object "KeptInside$Methods") := ⟨RX0, TX0, 5, rfl, by decide, (gw_of (i := 267) (by decide +kernel) (by decide +kernel)), rfl, by decide +kernel, rfl⟩
theorem fi_X0_22 : FI RX0 22 0 1 true (.object "KeptInside$Sites") := ⟨RX0, TX0, 5, rfl, by decide, (gw_of (i := 268) (by decide +kernel) (by decide +kernel)), rfl, by decide +kernel, rfl⟩
theorem fi_X0_26 : FI RX0 26 0 2 true (.object "KeptInside$MaySets") := ⟨RX0, TX0, 5, rfl, by decide, (gw_of (i := 269) (by decide +kernel) (by decide +kernel)), rfl, by decide +kernel, rfl⟩
theorem fi_X0_9 : FI RX0 9 0 3 true (.array .int) := ⟨RX0, TX0, 5, rfl, by decide, (gw_of (i := 270) (by decide +kernel) (by decide +kernel)), rfl, by decide +kernel, rfl⟩
theorem fi_X0_15 : FI RX0 15 0 4 true (.array .int) := ⟨RX0, TX0, 5, rfl, by decide, (gw_of (i := 271) (by decide +kernel) (by decide +kernel)), rfl, by decide +kernel, rfl⟩
theorem fi_X8_40 : FI RX8 40 8 0 true (.object "KeptInside$Methods") := ⟨RX8, TX8, 18, rfl, by decide, (gw_of (i := 289) (by decide +kernel) (by decide +kernel)), rfl, by decide +kernel, rfl⟩
theorem fi_X8_44 : FI RX8 44 8 1 true (.object "KeptInside$Sites") := ⟨RX8, TX8, 18, rfl, by decide, (gw_of (i := 290) (by decide +kernel) (by decide +kernel)), rfl, by decide +kernel, rfl⟩
theorem fi_X8_48 : FI RX8 48 8 2 true (.object "KeptInside$Fates") := ⟨RX8, TX8, 18, rfl, by decide, (gw_of (i := 291) (by decide +kernel) (by decide +kernel)), rfl, by decide +kernel, rfl⟩
theorem fi_X8_9 : FI RX8 9 8 3 true (.array .int) := ⟨RX8, TX8, 18, rfl, by decide, (gw_of (i := 292) (by decide +kernel) (by decide +kernel)), rfl, by decide +kernel, rfl⟩
theorem fi_X8_15 : FI RX8 15 8 4 false .int := ⟨RX8, TX8, 18, rfl, by decide, (gw_of (i := 293) (by decide +kernel) (by decide +kernel)), rfl, by decide +kernel, rfl⟩
theorem fi_X8_19 : FI RX8 19 8 5 false (.array .int) := ⟨RX8, TX8, 18, rfl, by decide, (gw_of (i := 294) (by decide +kernel) (by decide +kernel)), rfl, by decide +kernel, rfl⟩
theorem fi_X8_22 : FI RX8 22 8 6 false (.array .int) := ⟨RX8, TX8, 18, rfl, by decide, (gw_of (i := 295) (by decide +kernel) (by decide +kernel)), rfl, by decide +kernel, rfl⟩
theorem fi_X8_25 : FI RX8 25 8 7 false (.array .int) := ⟨RX8, TX8, 18, rfl, by decide, (gw_of (i := 296) (by decide +kernel) (by decide +kernel)), rfl, by decide +kernel, rfl⟩
theorem fi_X8_28 : FI RX8 28 8 8 false (.array .int) := ⟨RX8, TX8, 18, rfl, by decide, (gw_of (i := 297) (by decide +kernel) (by decide +kernel)), rfl, by decide +kernel, rfl⟩
theorem fi_X8_52 : FI RX8 52 8 9 false .boolean := ⟨RX8, TX8, 18, rfl, by decide, (gw_of (i := 298) (by decide +kernel) (by decide +kernel)), rfl, by decide +kernel, rfl⟩
theorem fi_X8_56 : FI RX8 56 8 10 false .int := ⟨RX8, TX8, 18, rfl, by decide, (gw_of (i := 299) (by decide +kernel) (by decide +kernel)), rfl, by decide +kernel, rfl⟩
theorem fi_X8_59 : FI RX8 59 8 11 false .int := ⟨RX8, TX8, 18, rfl, by decide, (gw_of (i := 300) (by decide +kernel) (by decide +kernel)), rfl, by decide +kernel, rfl⟩
theorem fi_X8_62 : FI RX8 62 8 12 false .int := ⟨RX8, TX8, 18, rfl, by decide, (gw_of (i := 301) (by decide +kernel) (by decide +kernel)), rfl, by decide +kernel, rfl⟩
theorem fi_X8_65 : FI RX8 65 8 13 false .int := ⟨RX8, TX8, 18, rfl, by decide, (gw_of (i := 302) (by decide +kernel) (by decide +kernel)), rfl, by decide +kernel, rfl⟩
theorem fi_X8_68 : FI RX8 68 8 14 false .int := ⟨RX8, TX8, 18, rfl, by decide, (gw_of (i := 303) (by decide +kernel) (by decide +kernel)), rfl, by decide +kernel, rfl⟩
theorem fi_X8_31 : FI RX8 31 8 15 true (.array .int) := ⟨RX8, TX8, 18, rfl, by decide, (gw_of (i := 304) (by decide +kernel) (by decide +kernel)), rfl, by decide +kernel, rfl⟩
theorem fi_X8_34 : FI RX8 34 8 16 true (.array .int) := ⟨RX8, TX8, 18, rfl, by decide, (gw_of (i := 305) (by decide +kernel) (by decide +kernel)), rfl, by decide +kernel, rfl⟩
theorem fi_X8_37 : FI RX8 37 8 17 true (.array .int) := ⟨RX8, TX8, 18, rfl, by decide, (gw_of (i := 306) (by decide +kernel) (by decide +kernel)), rfl, by decide +kernel, rfl⟩
theorem fi_X9_12 : FI RX9 12 9 0 true (.object "KeptInside$Text") := ⟨RX9, TX9, 14, rfl, by decide, (gw_of (i := 344) (by decide +kernel) (by decide +kernel)), rfl, by decide +kernel, rfl⟩
theorem fi_X9_19 : FI RX9 19 9 1 true (.object "KeptInside$Methods") := ⟨RX9, TX9, 14, rfl, by decide, (gw_of (i := 345) (by decide +kernel) (by decide +kernel)), rfl, by decide +kernel, rfl⟩
theorem fi_X9_23 : FI RX9 23 9 2 true (.object "KeptInside$Methods") := ⟨RX9, TX9, 14, rfl, by decide, (gw_of (i := 346) (by decide +kernel) (by decide +kernel)), rfl, by decide +kernel, rfl⟩
theorem fi_X9_31 : FI RX9 31 9 3 true (.object "KeptInside$Reader") := ⟨RX9, TX9, 14, rfl, by decide, (gw_of (i := 347) (by decide +kernel) (by decide +kernel)), rfl, by decide +kernel, rfl⟩
theorem fi_X9_38 : FI RX9 38 9 4 true (.object "KeptInside$States") := ⟨RX9, TX9, 14, rfl, by decide, (gw_of (i := 348) (by decide +kernel) (by decide +kernel)), rfl, by decide +kernel, rfl⟩
theorem fi_X9_45 : FI RX9 45 9 5 true (.object "KeptInside$Sites") := ⟨RX9, TX9, 14, rfl, by decide, (gw_of (i := 349) (by decide +kernel) (by decide +kernel)), rfl, by decide +kernel, rfl⟩
theorem fi_X9_54 : FI RX9 54 9 6 true (.object "KeptInside$MaySets") := ⟨RX9, TX9, 14, rfl, by decide, (gw_of (i := 350) (by decide +kernel) (by decide +kernel)), rfl, by decide +kernel, rfl⟩
theorem fi_X9_63 : FI RX9 63 9 7 true (.object "KeptInside$Fates") := ⟨RX9, TX9, 14, rfl, by decide, (gw_of (i := 351) (by decide +kernel) (by decide +kernel)), rfl, by decide +kernel, rfl⟩
theorem fi_X9_72 : FI RX9 72 9 8 true (.object "KeptInside$Trial") := ⟨RX9, TX9, 14, rfl, by decide, (gw_of (i := 352) (by decide +kernel) (by decide +kernel)), rfl, by decide +kernel, rfl⟩
theorem fi_X9_262 : FI RX9 262 9 9 false .int := ⟨RX9, TX9, 14, rfl, by decide, (gw_of (i := 353) (by decide +kernel) (by decide +kernel)), rfl, by decide +kernel, rfl⟩
theorem fi_X9_266 : FI RX9 266 9 10 false .int := ⟨RX9, TX9, 14, rfl, by decide, (gw_of (i := 354) (by decide +kernel) (by decide +kernel)), rfl, by decide +kernel, rfl⟩
theorem fi_X9_269 : FI RX9 269 9 11 false .int := ⟨RX9, TX9, 14, rfl, by decide, (gw_of (i := 355) (by decide +kernel) (by decide +kernel)), rfl, by decide +kernel, rfl⟩
theorem fi_X9_275 : FI RX9 275 9 12 false .boolean := ⟨RX9, TX9, 14, rfl, by decide, (gw_of (i := 356) (by decide +kernel) (by decide +kernel)), rfl, by decide +kernel, rfl⟩
theorem fi_X9_279 : FI RX9 279 9 13 false .boolean := ⟨RX9, TX9, 14, rfl, by decide, (gw_of (i := 357) (by decide +kernel) (by decide +kernel)), rfl, by decide +kernel, rfl⟩
theorem fi_X10_7 : FI RX10 7 10 0 true (.array .int) := ⟨RX10, TX10, 45, rfl, by decide, (gw_of (i := 1025) (by decide +kernel) (by decide +kernel)), rfl, by decide +kernel, rfl⟩
theorem fi_X10_13 : FI RX10 13 10 1 true (.array .int) := ⟨RX10, TX10, 45, rfl, by decide, (gw_of (i := 1026) (by decide +kernel) (by decide +kernel)), rfl, by decide +kernel, rfl⟩
theorem fi_X10_16 : FI RX10 16 10 2 true (.array .int) := ⟨RX10, TX10, 45, rfl, by decide, (gw_of (i := 1027) (by decide +kernel) (by decide +kernel)), rfl, by decide +kernel, rfl⟩
theorem fi_X10_85 : FI RX10 85 10 3 false .int := ⟨RX10, TX10, 45, rfl, by decide, (gw_of (i := 1028) (by decide +kernel) (by decide +kernel)), rfl, by decide +kernel, rfl⟩
theorem fi_X10_19 : FI RX10 19 10 4 true (.array .int) := ⟨RX10, TX10, 45, rfl, by decide, (gw_of (i := 1029) (by decide +kernel) (by decide +kernel)), rfl, by decide +kernel, rfl⟩
theorem fi_X10_22 : FI RX10 22 10 5 true (.array .int) := ⟨RX10, TX10, 45, rfl, by decide, (gw_of (i := 1030) (by decide +kernel) (by decide +kernel)), rfl, by decide +kernel, rfl⟩
theorem fi_X10_96 : FI RX10 96 10 6 false .int := ⟨RX10, TX10, 45, rfl, by decide, (gw_of (i := 1031) (by decide +kernel) (by decide +kernel)), rfl, by decide +kernel, rfl⟩
theorem fi_X10_93 : FI RX10 93 10 7 false .int := ⟨RX10, TX10, 45, rfl, by decide, (gw_of (i := 1032) (by decide +kernel) (by decide +kernel)), rfl, by decide +kernel, rfl⟩
theorem fi_X10_106 : FI RX10 106 10 8 false .int := ⟨RX10, TX10, 45, rfl, by decide, (gw_of (i := 1033) (by decide +kernel) (by decide +kernel)), rfl, by decide +kernel, rfl⟩
theorem fi_X10_103 : FI RX10 103 10 9 false .int := ⟨RX10, TX10, 45, rfl, by decide, (gw_of (i := 1034) (by decide +kernel) (by decide +kernel)), rfl, by decide +kernel, rfl⟩
theorem fi_X10_25 : FI RX10 25 10 10 true (.array .int) := ⟨RX10, TX10, 45, rfl, by decide, (gw_of (i := 1035) (by decide +kernel) (by decide +kernel)), rfl, by decide +kernel, rfl⟩
theorem fi_X10_28 : FI RX10 28 10 11 true (.array .int) := ⟨RX10, TX10, 45, rfl, by decide, (gw_of (i := 1036) (by decide +kernel) (by decide +kernel)), rfl, by decide +kernel, rfl⟩
theorem fi_X10_133 : FI RX10 133 10 12 false .int := ⟨RX10, TX10, 45, rfl, by decide, (gw_of (i := 1037) (by decide +kernel) (by decide +kernel)), rfl, by decide +kernel, rfl⟩
theorem fi_X10_127 : FI RX10 127 10 13 false .int := ⟨RX10, TX10, 45, rfl, by decide, (gw_of (i := 1038) (by decide +kernel) (by decide +kernel)), rfl, by decide +kernel, rfl⟩
theorem fi_X10_144 : FI RX10 144 10 14 false .int := ⟨RX10, TX10, 45, rfl, by decide, (gw_of (i := 1039) (by decide +kernel) (by decide +kernel)), rfl, by decide +kernel, rfl⟩
theorem fi_X10_124 : FI RX10 124 10 15 false .int := ⟨RX10, TX10, 45, rfl, by decide, (gw_of (i := 1040) (by decide +kernel) (by decide +kernel)), rfl, by decide +kernel, rfl⟩
theorem fi_X10_130 : FI RX10 130 10 16 false .int := ⟨RX10, TX10, 45, rfl, by decide, (gw_of (i := 1041) (by decide +kernel) (by decide +kernel)), rfl, by decide +kernel, rfl⟩
theorem fi_X10_31 : FI RX10 31 10 17 true (.array .int) := ⟨RX10, TX10, 45, rfl, by decide, (gw_of (i := 1042) (by decide +kernel) (by decide +kernel)), rfl, by decide +kernel, rfl⟩
theorem fi_X10_34 : FI RX10 34 10 18 true (.array .int) := ⟨RX10, TX10, 45, rfl, by decide, (gw_of (i := 1043) (by decide +kernel) (by decide +kernel)), rfl, by decide +kernel, rfl⟩
theorem fi_X10_37 : FI RX10 37 10 19 true (.array .int) := ⟨RX10, TX10, 45, rfl, by decide, (gw_of (i := 1044) (by decide +kernel) (by decide +kernel)), rfl, by decide +kernel, rfl⟩
theorem fi_X10_175 : FI RX10 175 10 20 false .int := ⟨RX10, TX10, 45, rfl, by decide, (gw_of (i := 1045) (by decide +kernel) (by decide +kernel)), rfl, by decide +kernel, rfl⟩
theorem fi_X10_40 : FI RX10 40 10 21 true (.array .int) := ⟨RX10, TX10, 45, rfl, by decide, (gw_of (i := 1046) (by decide +kernel) (by decide +kernel)), rfl, by decide +kernel, rfl⟩
theorem fi_X10_182 : FI RX10 182 10 22 false .boolean := ⟨RX10, TX10, 45, rfl, by decide, (gw_of (i := 1047) (by decide +kernel) (by decide +kernel)), rfl, by decide +kernel, rfl⟩
theorem fi_X10_43 : FI RX10 43 10 23 true (.array .int) := ⟨RX10, TX10, 45, rfl, by decide, (gw_of (i := 1048) (by decide +kernel) (by decide +kernel)), rfl, by decide +kernel, rfl⟩
theorem fi_X10_46 : FI RX10 46 10 24 true (.array .int) := ⟨RX10, TX10, 45, rfl, by decide, (gw_of (i := 1049) (by decide +kernel) (by decide +kernel)), rfl, by decide +kernel, rfl⟩
theorem fi_X10_49 : FI RX10 49 10 25 true (.array .int) := ⟨RX10, TX10, 45, rfl, by decide, (gw_of (i := 1050) (by decide +kernel) (by decide +kernel)), rfl, by decide +kernel, rfl⟩
theorem fi_X10_52 : FI RX10 52 10 26 true (.array .int) := ⟨RX10, TX10, 45, rfl, by decide, (gw_of (i := 1051) (by decide +kernel) (by decide +kernel)), rfl, by decide +kernel, rfl⟩
theorem fi_X10_236 : FI RX10 236 10 27 false .int := ⟨RX10, TX10, 45, rfl, by decide, (gw_of (i := 1052) (by decide +kernel) (by decide +kernel)), rfl, by decide +kernel, rfl⟩
theorem fi_X10_239 : FI RX10 239 10 28 false .int := ⟨RX10, TX10, 45, rfl, by decide, (gw_of (i := 1053) (by decide +kernel) (by decide +kernel)), rfl, by decide +kernel, rfl⟩
theorem fi_X10_55 : FI RX10 55 10 29 true (.array .int) := ⟨RX10, TX10, 45, rfl, by decide, (gw_of (i := 1054) (by decide +kernel) (by decide +kernel)), rfl, by decide +kernel, rfl⟩
theorem fi_X10_58 : FI RX10 58 10 30 true (.array .int) := ⟨RX10, TX10, 45, rfl, by decide, (gw_of (i := 1055) (by decide +kernel) (by decide +kernel)), rfl, by decide +kernel, rfl⟩
theorem fi_X10_61 : FI RX10 61 10 31 true (.array .int) := ⟨RX10, TX10, 45, rfl, by decide, (gw_of (i := 1056) (by decide +kernel) (by decide +kernel)), rfl, by decide +kernel, rfl⟩
theorem fi_X10_64 : FI RX10 64 10 32 true (.array .int) := ⟨RX10, TX10, 45, rfl, by decide, (gw_of (i := 1057) (by decide +kernel) (by decide +kernel)), rfl, by decide +kernel, rfl⟩
theorem fi_X10_67 : FI RX10 67 10 33 true (.array .int) := ⟨RX10, TX10, 45, rfl, by decide, (gw_of (i := 1058) (by decide +kernel) (by decide +kernel)), rfl, by decide +kernel, rfl⟩
theorem fi_X10_70 : FI RX10 70 10 34 true (.array .int) := ⟨RX10, TX10, 45, rfl, by decide, (gw_of (i := 1059) (by decide +kernel) (by decide +kernel)), rfl, by decide +kernel, rfl⟩
theorem fi_X10_230 : FI RX10 230 10 35 false .int := ⟨RX10, TX10, 45, rfl, by decide, (gw_of (i := 1060) (by decide +kernel) (by decide +kernel)), rfl, by decide +kernel, rfl⟩
theorem fi_X10_257 : FI RX10 257 10 36 false .boolean := ⟨RX10, TX10, 45, rfl, by decide, (gw_of (i := 1061) (by decide +kernel) (by decide +kernel)), rfl, by decide +kernel, rfl⟩
theorem fi_X10_248 : FI RX10 248 10 37 false .int := ⟨RX10, TX10, 45, rfl, by decide, (gw_of (i := 1062) (by decide +kernel) (by decide +kernel)), rfl, by decide +kernel, rfl⟩
theorem fi_X10_251 : FI RX10 251 10 38 false .int := ⟨RX10, TX10, 45, rfl, by decide, (gw_of (i := 1063) (by decide +kernel) (by decide +kernel)), rfl, by decide +kernel, rfl⟩
theorem fi_X10_233 : FI RX10 233 10 39 false .int := ⟨RX10, TX10, 45, rfl, by decide, (gw_of (i := 1064) (by decide +kernel) (by decide +kernel)), rfl, by decide +kernel, rfl⟩
theorem fi_X10_245 : FI RX10 245 10 40 false .int := ⟨RX10, TX10, 45, rfl, by decide, (gw_of (i := 1065) (by decide +kernel) (by decide +kernel)), rfl, by decide +kernel, rfl⟩
theorem fi_X10_73 : FI RX10 73 10 41 true (.array .int) := ⟨RX10, TX10, 45, rfl, by decide, (gw_of (i := 1066) (by decide +kernel) (by decide +kernel)), rfl, by decide +kernel, rfl⟩
theorem fi_X10_76 : FI RX10 76 10 42 true (.array .int) := ⟨RX10, TX10, 45, rfl, by decide, (gw_of (i := 1067) (by decide +kernel) (by decide +kernel)), rfl, by decide +kernel, rfl⟩
theorem fi_X10_79 : FI RX10 79 10 43 true (.array .int) := ⟨RX10, TX10, 45, rfl, by decide, (gw_of (i := 1068) (by decide +kernel) (by decide +kernel)), rfl, by decide +kernel, rfl⟩
theorem fi_X10_82 : FI RX10 82 10 44 true (.array .int) := ⟨RX10, TX10, 45, rfl, by decide, (gw_of (i := 1069) (by decide +kernel) (by decide +kernel)), rfl, by decide +kernel, rfl⟩
