section
-- ===== PART A: goes FIRST, ahead of the names: the tables' words, and 'selects' of the private methods out of them =====
/-- a private method of a class that the tables say can be made, by its rows of tables_1 -/
def lw_okq (q : MethodName × Nat) : Prop := (q.1.cls ≠ "java/lang/invoke/MethodHandle" ∧ q.1.cls ≠ "java/lang/invoke/VarHandle") ∧ Cond.instantiable q.1.cls q.2 ∈ tables_1 ∧ Cond.privateMethod q.1 ∈ tables_1 ∧ Cond.instanceMethod q.1 ∈ tables_1
theorem lw_p0 : lw_okq (⟨"KeptInside", "refusedAsBad", "()I"⟩, 14) := ⟨⟨by decide +kernel, by decide +kernel⟩, List.mem_of_getElem? (i := 20) (by decide +kernel), List.mem_of_getElem? (i := 308) (by decide +kernel), List.mem_of_getElem? (i := 309) (by decide +kernel)⟩
theorem lw_p1 : lw_okq (⟨"KeptInside", "refusedAsFull", "()I"⟩, 14) := ⟨⟨by decide +kernel, by decide +kernel⟩, List.mem_of_getElem? (i := 20) (by decide +kernel), List.mem_of_getElem? (i := 316) (by decide +kernel), List.mem_of_getElem? (i := 317) (by decide +kernel)⟩
theorem lw_p2 : lw_okq (⟨"KeptInside$Tokens", "add", "(II)V"⟩, 5) := ⟨⟨by decide +kernel, by decide +kernel⟩, List.mem_of_getElem? (i := 65) (by decide +kernel), List.mem_of_getElem? (i := 416) (by decide +kernel), List.mem_of_getElem? (i := 417) (by decide +kernel)⟩
theorem lw_p3 : lw_okq (⟨"KeptInside$Reader", "readMethod", "(I)V"⟩, 9) := ⟨⟨by decide +kernel, by decide +kernel⟩, List.mem_of_getElem? (i := 59) (by decide +kernel), List.mem_of_getElem? (i := 431) (by decide +kernel), List.mem_of_getElem? (i := 432) (by decide +kernel)⟩
theorem lw_p4 : lw_okq (⟨"KeptInside$Reader", "take", "(I)V"⟩, 9) := ⟨⟨by decide +kernel, by decide +kernel⟩, List.mem_of_getElem? (i := 59) (by decide +kernel), List.mem_of_getElem? (i := 439) (by decide +kernel), List.mem_of_getElem? (i := 440) (by decide +kernel)⟩
theorem lw_p5 : lw_okq (⟨"KeptInside$Reader", "refuse", "()V"⟩, 9) := ⟨⟨by decide +kernel, by decide +kernel⟩, List.mem_of_getElem? (i := 59) (by decide +kernel), List.mem_of_getElem? (i := 447) (by decide +kernel), List.mem_of_getElem? (i := 448) (by decide +kernel)⟩
theorem lw_p6 : lw_okq (⟨"KeptInside$Reader", "readLine", "(I)V"⟩, 9) := ⟨⟨by decide +kernel, by decide +kernel⟩, List.mem_of_getElem? (i := 59) (by decide +kernel), List.mem_of_getElem? (i := 455) (by decide +kernel), List.mem_of_getElem? (i := 456) (by decide +kernel)⟩
theorem lw_p7 : lw_okq (⟨"KeptInside$Reader", "takeName", "()I"⟩, 9) := ⟨⟨by decide +kernel, by decide +kernel⟩, List.mem_of_getElem? (i := 59) (by decide +kernel), List.mem_of_getElem? (i := 459) (by decide +kernel), List.mem_of_getElem? (i := 460) (by decide +kernel)⟩
theorem lw_p8 : lw_okq (⟨"KeptInside$Reader", "readPut", "()V"⟩, 9) := ⟨⟨by decide +kernel, by decide +kernel⟩, List.mem_of_getElem? (i := 59) (by decide +kernel), List.mem_of_getElem? (i := 466) (by decide +kernel), List.mem_of_getElem? (i := 467) (by decide +kernel)⟩
theorem lw_p9 : lw_okq (⟨"KeptInside$Reader", "readValue", "(I)V"⟩, 9) := ⟨⟨by decide +kernel, by decide +kernel⟩, List.mem_of_getElem? (i := 59) (by decide +kernel), List.mem_of_getElem? (i := 470) (by decide +kernel), List.mem_of_getElem? (i := 471) (by decide +kernel)⟩
theorem lw_p10 : lw_okq (⟨"KeptInside$Reader", "noteCall", "()V"⟩, 9) := ⟨⟨by decide +kernel, by decide +kernel⟩, List.mem_of_getElem? (i := 59) (by decide +kernel), List.mem_of_getElem? (i := 474) (by decide +kernel), List.mem_of_getElem? (i := 475) (by decide +kernel)⟩
theorem lw_p11 : lw_okq (⟨"KeptInside$Reader", "firstMissingCall", "()I"⟩, 9) := ⟨⟨by decide +kernel, by decide +kernel⟩, List.mem_of_getElem? (i := 59) (by decide +kernel), List.mem_of_getElem? (i := 487) (by decide +kernel), List.mem_of_getElem? (i := 488) (by decide +kernel)⟩
theorem lw_p12 : lw_okq (⟨"KeptInside", "leaveState", "()V"⟩, 14) := ⟨⟨by decide +kernel, by decide +kernel⟩, List.mem_of_getElem? (i := 20) (by decide +kernel), List.mem_of_getElem? (i := 495) (by decide +kernel), List.mem_of_getElem? (i := 496) (by decide +kernel)⟩
theorem lw_p13 : lw_okq (⟨"KeptInside$States", "loseOldest", "()V"⟩, 2) := ⟨⟨by decide +kernel, by decide +kernel⟩, List.mem_of_getElem? (i := 115) (by decide +kernel), List.mem_of_getElem? (i := 503) (by decide +kernel), List.mem_of_getElem? (i := 504) (by decide +kernel)⟩
theorem lw_p14 : lw_okq (⟨"KeptInside", "forgetFindings", "()V"⟩, 14) := ⟨⟨by decide +kernel, by decide +kernel⟩, List.mem_of_getElem? (i := 20) (by decide +kernel), List.mem_of_getElem? (i := 514) (by decide +kernel), List.mem_of_getElem? (i := 515) (by decide +kernel)⟩
theorem lw_p15 : lw_okq (⟨"KeptInside", "findMays", "()V"⟩, 14) := ⟨⟨by decide +kernel, by decide +kernel⟩, List.mem_of_getElem? (i := 20) (by decide +kernel), List.mem_of_getElem? (i := 551) (by decide +kernel), List.mem_of_getElem? (i := 552) (by decide +kernel)⟩
def lw_privs_1 : List (MethodName × Nat) := [(⟨"KeptInside", "refusedAsBad", "()I"⟩, 14), (⟨"KeptInside", "refusedAsFull", "()I"⟩, 14), (⟨"KeptInside$Tokens", "add", "(II)V"⟩, 5), (⟨"KeptInside$Reader", "readMethod", "(I)V"⟩, 9), (⟨"KeptInside$Reader", "take", "(I)V"⟩, 9), (⟨"KeptInside$Reader", "refuse", "()V"⟩, 9), (⟨"KeptInside$Reader", "readLine", "(I)V"⟩, 9), (⟨"KeptInside$Reader", "takeName", "()I"⟩, 9), (⟨"KeptInside$Reader", "readPut", "()V"⟩, 9), (⟨"KeptInside$Reader", "readValue", "(I)V"⟩, 9), (⟨"KeptInside$Reader", "noteCall", "()V"⟩, 9), (⟨"KeptInside$Reader", "firstMissingCall", "()I"⟩, 9), (⟨"KeptInside", "leaveState", "()V"⟩, 14), (⟨"KeptInside$States", "loseOldest", "()V"⟩, 2), (⟨"KeptInside", "forgetFindings", "()V"⟩, 14), (⟨"KeptInside", "findMays", "()V"⟩, 14)]
theorem lw_r1 : ∀ q ∈ lw_privs_1, lw_okq q := List.forall_mem_cons.mpr ⟨lw_p0, List.forall_mem_cons.mpr ⟨lw_p1, List.forall_mem_cons.mpr ⟨lw_p2, List.forall_mem_cons.mpr ⟨lw_p3, List.forall_mem_cons.mpr ⟨lw_p4, List.forall_mem_cons.mpr ⟨lw_p5, List.forall_mem_cons.mpr ⟨lw_p6, List.forall_mem_cons.mpr ⟨lw_p7, List.forall_mem_cons.mpr ⟨lw_p8, List.forall_mem_cons.mpr ⟨lw_p9, List.forall_mem_cons.mpr ⟨lw_p10, List.forall_mem_cons.mpr ⟨lw_p11, List.forall_mem_cons.mpr ⟨lw_p12, List.forall_mem_cons.mpr ⟨lw_p13, List.forall_mem_cons.mpr ⟨lw_p14, List.forall_mem_cons.mpr ⟨lw_p15, fun _ h => absurd h List.not_mem_nil⟩⟩⟩⟩⟩⟩⟩⟩⟩⟩⟩⟩⟩⟩⟩⟩
theorem lw_p16 : lw_okq (⟨"KeptInside$Methods", "code", "(II)I"⟩, 3) := ⟨⟨by decide +kernel, by decide +kernel⟩, List.mem_of_getElem? (i := 42) (by decide +kernel), List.mem_of_getElem? (i := 566) (by decide +kernel), List.mem_of_getElem? (i := 567) (by decide +kernel)⟩
theorem lw_p17 : lw_okq (⟨"KeptInside$Sites", "add", "(II)V"⟩, 4) := ⟨⟨by decide +kernel, by decide +kernel⟩, List.mem_of_getElem? (i := 131) (by decide +kernel), List.mem_of_getElem? (i := 570) (by decide +kernel), List.mem_of_getElem? (i := 571) (by decide +kernel)⟩
theorem lw_p18 : lw_okq (⟨"KeptInside$MaySets", "addByLine", "(II)V"⟩, 6) := ⟨⟨by decide +kernel, by decide +kernel⟩, List.mem_of_getElem? (i := 150) (by decide +kernel), List.mem_of_getElem? (i := 581) (by decide +kernel), List.mem_of_getElem? (i := 582) (by decide +kernel)⟩
theorem lw_p19 : lw_okq (⟨"KeptInside$MaySets", "addToName", "(III)V"⟩, 6) := ⟨⟨by decide +kernel, by decide +kernel⟩, List.mem_of_getElem? (i := 150) (by decide +kernel), List.mem_of_getElem? (i := 604) (by decide +kernel), List.mem_of_getElem? (i := 605) (by decide +kernel)⟩
theorem lw_p20 : lw_okq (⟨"KeptInside$MaySets", "addToFields", "(II)V"⟩, 6) := ⟨⟨by decide +kernel, by decide +kernel⟩, List.mem_of_getElem? (i := 150) (by decide +kernel), List.mem_of_getElem? (i := 608) (by decide +kernel), List.mem_of_getElem? (i := 609) (by decide +kernel)⟩
theorem lw_p21 : lw_okq (⟨"KeptInside$MaySets", "inFields", "(I)I"⟩, 6) := ⟨⟨by decide +kernel, by decide +kernel⟩, List.mem_of_getElem? (i := 150) (by decide +kernel), List.mem_of_getElem? (i := 616) (by decide +kernel), List.mem_of_getElem? (i := 617) (by decide +kernel)⟩
theorem lw_p22 : lw_okq (⟨"KeptInside$MaySets", "addToOpenPlace", "(I)V"⟩, 6) := ⟨⟨by decide +kernel, by decide +kernel⟩, List.mem_of_getElem? (i := 150) (by decide +kernel), List.mem_of_getElem? (i := 620) (by decide +kernel), List.mem_of_getElem? (i := 621) (by decide +kernel)⟩
theorem lw_p23 : lw_okq (⟨"KeptInside$Fates", "giveFates", "(III)V"⟩, 5) := ⟨⟨by decide +kernel, by decide +kernel⟩, List.mem_of_getElem? (i := 175) (by decide +kernel), List.mem_of_getElem? (i := 642) (by decide +kernel), List.mem_of_getElem? (i := 643) (by decide +kernel)⟩
theorem lw_p24 : lw_okq (⟨"KeptInside$Fates", "allKept", "()I"⟩, 5) := ⟨⟨by decide +kernel, by decide +kernel⟩, List.mem_of_getElem? (i := 175) (by decide +kernel), List.mem_of_getElem? (i := 654) (by decide +kernel), List.mem_of_getElem? (i := 655) (by decide +kernel)⟩
theorem lw_p25 : lw_okq (⟨"KeptInside$Fates", "idleAmong", "(II)I"⟩, 5) := ⟨⟨by decide +kernel, by decide +kernel⟩, List.mem_of_getElem? (i := 175) (by decide +kernel), List.mem_of_getElem? (i := 658) (by decide +kernel), List.mem_of_getElem? (i := 659) (by decide +kernel)⟩
theorem lw_p26 : lw_okq (⟨"KeptInside", "ofMethod", "(II)I"⟩, 14) := ⟨⟨by decide +kernel, by decide +kernel⟩, List.mem_of_getElem? (i := 20) (by decide +kernel), List.mem_of_getElem? (i := 665) (by decide +kernel), List.mem_of_getElem? (i := 666) (by decide +kernel)⟩
theorem lw_p27 : lw_okq (⟨"KeptInside", "ofLine", "(III)I"⟩, 14) := ⟨⟨by decide +kernel, by decide +kernel⟩, List.mem_of_getElem? (i := 20) (by decide +kernel), List.mem_of_getElem? (i := 692) (by decide +kernel), List.mem_of_getElem? (i := 693) (by decide +kernel)⟩
theorem lw_p28 : lw_okq (⟨"KeptInside", "ofSite", "(II)I"⟩, 14) := ⟨⟨by decide +kernel, by decide +kernel⟩, List.mem_of_getElem? (i := 20) (by decide +kernel), List.mem_of_getElem? (i := 710) (by decide +kernel), List.mem_of_getElem? (i := 711) (by decide +kernel)⟩
theorem lw_p29 : lw_okq (⟨"KeptInside", "findRun", "()V"⟩, 14) := ⟨⟨by decide +kernel, by decide +kernel⟩, List.mem_of_getElem? (i := 20) (by decide +kernel), List.mem_of_getElem? (i := 754) (by decide +kernel), List.mem_of_getElem? (i := 755) (by decide +kernel)⟩
theorem lw_p30 : lw_okq (⟨"KeptInside$Trial", "callMethod", "(II)I"⟩, 18) := ⟨⟨by decide +kernel, by decide +kernel⟩, List.mem_of_getElem? (i := 197) (by decide +kernel), List.mem_of_getElem? (i := 764) (by decide +kernel), List.mem_of_getElem? (i := 765) (by decide +kernel)⟩
theorem lw_p31 : lw_okq (⟨"KeptInside$Trial", "setName", "(III)V"⟩, 18) := ⟨⟨by decide +kernel, by decide +kernel⟩, List.mem_of_getElem? (i := 197) (by decide +kernel), List.mem_of_getElem? (i := 768) (by decide +kernel), List.mem_of_getElem? (i := 769) (by decide +kernel)⟩
def lw_privs_2 : List (MethodName × Nat) := [(⟨"KeptInside$Methods", "code", "(II)I"⟩, 3), (⟨"KeptInside$Sites", "add", "(II)V"⟩, 4), (⟨"KeptInside$MaySets", "addByLine", "(II)V"⟩, 6), (⟨"KeptInside$MaySets", "addToName", "(III)V"⟩, 6), (⟨"KeptInside$MaySets", "addToFields", "(II)V"⟩, 6), (⟨"KeptInside$MaySets", "inFields", "(I)I"⟩, 6), (⟨"KeptInside$MaySets", "addToOpenPlace", "(I)V"⟩, 6), (⟨"KeptInside$Fates", "giveFates", "(III)V"⟩, 5), (⟨"KeptInside$Fates", "allKept", "()I"⟩, 5), (⟨"KeptInside$Fates", "idleAmong", "(II)I"⟩, 5), (⟨"KeptInside", "ofMethod", "(II)I"⟩, 14), (⟨"KeptInside", "ofLine", "(III)I"⟩, 14), (⟨"KeptInside", "ofSite", "(II)I"⟩, 14), (⟨"KeptInside", "findRun", "()V"⟩, 14), (⟨"KeptInside$Trial", "callMethod", "(II)I"⟩, 18), (⟨"KeptInside$Trial", "setName", "(III)V"⟩, 18)]
theorem lw_r2 : ∀ q ∈ lw_privs_2, lw_okq q := List.forall_mem_cons.mpr ⟨lw_p16, List.forall_mem_cons.mpr ⟨lw_p17, List.forall_mem_cons.mpr ⟨lw_p18, List.forall_mem_cons.mpr ⟨lw_p19, List.forall_mem_cons.mpr ⟨lw_p20, List.forall_mem_cons.mpr ⟨lw_p21, List.forall_mem_cons.mpr ⟨lw_p22, List.forall_mem_cons.mpr ⟨lw_p23, List.forall_mem_cons.mpr ⟨lw_p24, List.forall_mem_cons.mpr ⟨lw_p25, List.forall_mem_cons.mpr ⟨lw_p26, List.forall_mem_cons.mpr ⟨lw_p27, List.forall_mem_cons.mpr ⟨lw_p28, List.forall_mem_cons.mpr ⟨lw_p29, List.forall_mem_cons.mpr ⟨lw_p30, List.forall_mem_cons.mpr ⟨lw_p31, fun _ h => absurd h List.not_mem_nil⟩⟩⟩⟩⟩⟩⟩⟩⟩⟩⟩⟩⟩⟩⟩⟩
theorem lw_p32 : lw_okq (⟨"KeptInside$Trial", "doLine", "(III)V"⟩, 18) := ⟨⟨by decide +kernel, by decide +kernel⟩, List.mem_of_getElem? (i := 197) (by decide +kernel), List.mem_of_getElem? (i := 774) (by decide +kernel), List.mem_of_getElem? (i := 775) (by decide +kernel)⟩
theorem lw_p33 : lw_okq (⟨"KeptInside$Trial", "inName", "(II)I"⟩, 18) := ⟨⟨by decide +kernel, by decide +kernel⟩, List.mem_of_getElem? (i := 197) (by decide +kernel), List.mem_of_getElem? (i := 779) (by decide +kernel), List.mem_of_getElem? (i := 780) (by decide +kernel)⟩
theorem lw_p34 : lw_okq (⟨"KeptInside$Trial", "newThing", "(II)I"⟩, 18) := ⟨⟨by decide +kernel, by decide +kernel⟩, List.mem_of_getElem? (i := 197) (by decide +kernel), List.mem_of_getElem? (i := 786) (by decide +kernel), List.mem_of_getElem? (i := 787) (by decide +kernel)⟩
theorem lw_p35 : lw_okq (⟨"KeptInside$Trial", "makeMoreRoom", "()V"⟩, 18) := ⟨⟨by decide +kernel, by decide +kernel⟩, List.mem_of_getElem? (i := 197) (by decide +kernel), List.mem_of_getElem? (i := 790) (by decide +kernel), List.mem_of_getElem? (i := 791) (by decide +kernel)⟩
theorem lw_p36 : lw_okq (⟨"KeptInside$Trial", "putIntoField", "(II)V"⟩, 18) := ⟨⟨by decide +kernel, by decide +kernel⟩, List.mem_of_getElem? (i := 197) (by decide +kernel), List.mem_of_getElem? (i := 808) (by decide +kernel), List.mem_of_getElem? (i := 809) (by decide +kernel)⟩
theorem lw_p37 : lw_okq (⟨"KeptInside$Trial", "isThing", "(I)Z"⟩, 18) := ⟨⟨by decide +kernel, by decide +kernel⟩, List.mem_of_getElem? (i := 197) (by decide +kernel), List.mem_of_getElem? (i := 812) (by decide +kernel), List.mem_of_getElem? (i := 813) (by decide +kernel)⟩
theorem lw_p38 : lw_okq (⟨"KeptInside$Trial", "takeFromField", "(I)I"⟩, 18) := ⟨⟨by decide +kernel, by decide +kernel⟩, List.mem_of_getElem? (i := 197) (by decide +kernel), List.mem_of_getElem? (i := 816) (by decide +kernel), List.mem_of_getElem? (i := 817) (by decide +kernel)⟩
theorem lw_p39 : lw_okq (⟨"KeptInside$Trial", "lock", "(II)V"⟩, 18) := ⟨⟨by decide +kernel, by decide +kernel⟩, List.mem_of_getElem? (i := 197) (by decide +kernel), List.mem_of_getElem? (i := 821) (by decide +kernel), List.mem_of_getElem? (i := 822) (by decide +kernel)⟩
theorem lw_p40 : lw_okq (⟨"KeptInside$Trial", "callFrom", "(III)V"⟩, 18) := ⟨⟨by decide +kernel, by decide +kernel⟩, List.mem_of_getElem? (i := 197) (by decide +kernel), List.mem_of_getElem? (i := 825) (by decide +kernel), List.mem_of_getElem? (i := 826) (by decide +kernel)⟩
theorem lw_p41 : lw_okq (⟨"KeptInside$Trial", "findLeaks", "(IIII)V"⟩, 18) := ⟨⟨by decide +kernel, by decide +kernel⟩, List.mem_of_getElem? (i := 197) (by decide +kernel), List.mem_of_getElem? (i := 830) (by decide +kernel), List.mem_of_getElem? (i := 831) (by decide +kernel)⟩
theorem lw_p42 : lw_okq (⟨"KeptInside$Trial", "followFrom", "(III)I"⟩, 18) := ⟨⟨by decide +kernel, by decide +kernel⟩, List.mem_of_getElem? (i := 197) (by decide +kernel), List.mem_of_getElem? (i := 835) (by decide +kernel), List.mem_of_getElem? (i := 836) (by decide +kernel)⟩
theorem lw_p43 : lw_okq (⟨"KeptInside", "ofRun", "(I)I"⟩, 14) := ⟨⟨by decide +kernel, by decide +kernel⟩, List.mem_of_getElem? (i := 20) (by decide +kernel), List.mem_of_getElem? (i := 839) (by decide +kernel), List.mem_of_getElem? (i := 840) (by decide +kernel)⟩
theorem lw_p44 : lw_okq (⟨"KeptInside", "ofSiteRun", "(II)I"⟩, 14) := ⟨⟨by decide +kernel, by decide +kernel⟩, List.mem_of_getElem? (i := 20) (by decide +kernel), List.mem_of_getElem? (i := 871) (by decide +kernel), List.mem_of_getElem? (i := 872) (by decide +kernel)⟩
theorem lw_p45 : lw_okq (⟨"KeptInside", "refusedAsNo", "()I"⟩, 14) := ⟨⟨by decide +kernel, by decide +kernel⟩, List.mem_of_getElem? (i := 20) (by decide +kernel), List.mem_of_getElem? (i := 903) (by decide +kernel), List.mem_of_getElem? (i := 904) (by decide +kernel)⟩
theorem lw_p46 : lw_okq (⟨"KeptInside", "ofAll", "(I)I"⟩, 14) := ⟨⟨by decide +kernel, by decide +kernel⟩, List.mem_of_getElem? (i := 20) (by decide +kernel), List.mem_of_getElem? (i := 915) (by decide +kernel), List.mem_of_getElem? (i := 916) (by decide +kernel)⟩
theorem lw_p47 : lw_okq (⟨"KeptInside", "digestWithMethod", "(JI)J"⟩, 14) := ⟨⟨by decide +kernel, by decide +kernel⟩, List.mem_of_getElem? (i := 20) (by decide +kernel), List.mem_of_getElem? (i := 925) (by decide +kernel), List.mem_of_getElem? (i := 926) (by decide +kernel)⟩
def lw_privs_3 : List (MethodName × Nat) := [(⟨"KeptInside$Trial", "doLine", "(III)V"⟩, 18), (⟨"KeptInside$Trial", "inName", "(II)I"⟩, 18), (⟨"KeptInside$Trial", "newThing", "(II)I"⟩, 18), (⟨"KeptInside$Trial", "makeMoreRoom", "()V"⟩, 18), (⟨"KeptInside$Trial", "putIntoField", "(II)V"⟩, 18), (⟨"KeptInside$Trial", "isThing", "(I)Z"⟩, 18), (⟨"KeptInside$Trial", "takeFromField", "(I)I"⟩, 18), (⟨"KeptInside$Trial", "lock", "(II)V"⟩, 18), (⟨"KeptInside$Trial", "callFrom", "(III)V"⟩, 18), (⟨"KeptInside$Trial", "findLeaks", "(IIII)V"⟩, 18), (⟨"KeptInside$Trial", "followFrom", "(III)I"⟩, 18), (⟨"KeptInside", "ofRun", "(I)I"⟩, 14), (⟨"KeptInside", "ofSiteRun", "(II)I"⟩, 14), (⟨"KeptInside", "refusedAsNo", "()I"⟩, 14), (⟨"KeptInside", "ofAll", "(I)I"⟩, 14), (⟨"KeptInside", "digestWithMethod", "(JI)J"⟩, 14)]
theorem lw_r3 : ∀ q ∈ lw_privs_3, lw_okq q := List.forall_mem_cons.mpr ⟨lw_p32, List.forall_mem_cons.mpr ⟨lw_p33, List.forall_mem_cons.mpr ⟨lw_p34, List.forall_mem_cons.mpr ⟨lw_p35, List.forall_mem_cons.mpr ⟨lw_p36, List.forall_mem_cons.mpr ⟨lw_p37, List.forall_mem_cons.mpr ⟨lw_p38, List.forall_mem_cons.mpr ⟨lw_p39, List.forall_mem_cons.mpr ⟨lw_p40, List.forall_mem_cons.mpr ⟨lw_p41, List.forall_mem_cons.mpr ⟨lw_p42, List.forall_mem_cons.mpr ⟨lw_p43, List.forall_mem_cons.mpr ⟨lw_p44, List.forall_mem_cons.mpr ⟨lw_p45, List.forall_mem_cons.mpr ⟨lw_p46, List.forall_mem_cons.mpr ⟨lw_p47, fun _ h => absurd h List.not_mem_nil⟩⟩⟩⟩⟩⟩⟩⟩⟩⟩⟩⟩⟩⟩⟩⟩
theorem lw_p48 : lw_okq (⟨"KeptInside", "digestWithSite", "(JI)J"⟩, 14) := ⟨⟨by decide +kernel, by decide +kernel⟩, List.mem_of_getElem? (i := 20) (by decide +kernel), List.mem_of_getElem? (i := 929) (by decide +kernel), List.mem_of_getElem? (i := 930) (by decide +kernel)⟩
theorem lw_p49 : lw_okq (⟨"KeptInsideModel", "refuse", "(I)I"⟩, 45) := ⟨⟨by decide +kernel, by decide +kernel⟩, List.mem_of_getElem? (i := 933) (by decide +kernel), List.mem_of_getElem? (i := 1082) (by decide +kernel), List.mem_of_getElem? (i := 1083) (by decide +kernel)⟩
theorem lw_p50 : lw_okq (⟨"KeptInsideModel", "readText", "()I"⟩, 45) := ⟨⟨by decide +kernel, by decide +kernel⟩, List.mem_of_getElem? (i := 933) (by decide +kernel), List.mem_of_getElem? (i := 1094) (by decide +kernel), List.mem_of_getElem? (i := 1095) (by decide +kernel)⟩
theorem lw_p51 : lw_okq (⟨"KeptInsideModel", "next", "()V"⟩, 45) := ⟨⟨by decide +kernel, by decide +kernel⟩, List.mem_of_getElem? (i := 933) (by decide +kernel), List.mem_of_getElem? (i := 1098) (by decide +kernel), List.mem_of_getElem? (i := 1099) (by decide +kernel)⟩
theorem lw_p52 : lw_okq (⟨"KeptInsideModel", "isWordByte", "()Z"⟩, 45) := ⟨⟨by decide +kernel, by decide +kernel⟩, List.mem_of_getElem? (i := 933) (by decide +kernel), List.mem_of_getElem? (i := 1102) (by decide +kernel), List.mem_of_getElem? (i := 1103) (by decide +kernel)⟩
theorem lw_p53 : lw_okq (⟨"KeptInsideModel", "isWord", "(IIII)Z"⟩, 45) := ⟨⟨by decide +kernel, by decide +kernel⟩, List.mem_of_getElem? (i := 933) (by decide +kernel), List.mem_of_getElem? (i := 1106) (by decide +kernel), List.mem_of_getElem? (i := 1107) (by decide +kernel)⟩
theorem lw_p54 : lw_okq (⟨"KeptInsideModel", "readMethod", "()Z"⟩, 45) := ⟨⟨by decide +kernel, by decide +kernel⟩, List.mem_of_getElem? (i := 933) (by decide +kernel), List.mem_of_getElem? (i := 1110) (by decide +kernel), List.mem_of_getElem? (i := 1111) (by decide +kernel)⟩
theorem lw_p55 : lw_okq (⟨"KeptInsideModel", "readLine", "(I)Z"⟩, 45) := ⟨⟨by decide +kernel, by decide +kernel⟩, List.mem_of_getElem? (i := 933) (by decide +kernel), List.mem_of_getElem? (i := 1114) (by decide +kernel), List.mem_of_getElem? (i := 1115) (by decide +kernel)⟩
theorem lw_p56 : lw_okq (⟨"KeptInsideModel", "nextName", "()I"⟩, 45) := ⟨⟨by decide +kernel, by decide +kernel⟩, List.mem_of_getElem? (i := 933) (by decide +kernel), List.mem_of_getElem? (i := 1121) (by decide +kernel), List.mem_of_getElem? (i := 1122) (by decide +kernel)⟩
theorem lw_p57 : lw_okq (⟨"KeptInsideModel", "isNext", "(I)Z"⟩, 45) := ⟨⟨by decide +kernel, by decide +kernel⟩, List.mem_of_getElem? (i := 933) (by decide +kernel), List.mem_of_getElem? (i := 1125) (by decide +kernel), List.mem_of_getElem? (i := 1126) (by decide +kernel)⟩
theorem lw_p58 : lw_okq (⟨"KeptInsideModel", "readRight", "(I)Z"⟩, 45) := ⟨⟨by decide +kernel, by decide +kernel⟩, List.mem_of_getElem? (i := 933) (by decide +kernel), List.mem_of_getElem? (i := 1129) (by decide +kernel), List.mem_of_getElem? (i := 1130) (by decide +kernel)⟩
theorem lw_p59 : lw_okq (⟨"KeptInsideModel", "note", "()V"⟩, 45) := ⟨⟨by decide +kernel, by decide +kernel⟩, List.mem_of_getElem? (i := 933) (by decide +kernel), List.mem_of_getElem? (i := 1133) (by decide +kernel), List.mem_of_getElem? (i := 1134) (by decide +kernel)⟩
theorem lw_p60 : lw_okq (⟨"KeptInsideModel", "isLine", "(II)Z"⟩, 45) := ⟨⟨by decide +kernel, by decide +kernel⟩, List.mem_of_getElem? (i := 933) (by decide +kernel), List.mem_of_getElem? (i := 1144) (by decide +kernel), List.mem_of_getElem? (i := 1145) (by decide +kernel)⟩
theorem lw_p61 : lw_okq (⟨"KeptInsideModel", "isMethod", "(I)Z"⟩, 45) := ⟨⟨by decide +kernel, by decide +kernel⟩, List.mem_of_getElem? (i := 933) (by decide +kernel), List.mem_of_getElem? (i := 1148) (by decide +kernel), List.mem_of_getElem? (i := 1149) (by decide +kernel)⟩
theorem lw_p62 : lw_okq (⟨"KeptInsideModel", "linesOf", "(I)I"⟩, 45) := ⟨⟨by decide +kernel, by decide +kernel⟩, List.mem_of_getElem? (i := 933) (by decide +kernel), List.mem_of_getElem? (i := 1152) (by decide +kernel), List.mem_of_getElem? (i := 1153) (by decide +kernel)⟩
theorem lw_p63 : lw_okq (⟨"KeptInsideModel", "findMays", "()V"⟩, 45) := ⟨⟨by decide +kernel, by decide +kernel⟩, List.mem_of_getElem? (i := 933) (by decide +kernel), List.mem_of_getElem? (i := 1164) (by decide +kernel), List.mem_of_getElem? (i := 1165) (by decide +kernel)⟩
def lw_privs_4 : List (MethodName × Nat) := [(⟨"KeptInside", "digestWithSite", "(JI)J"⟩, 14), (⟨"KeptInsideModel", "refuse", "(I)I"⟩, 45), (⟨"KeptInsideModel", "readText", "()I"⟩, 45), (⟨"KeptInsideModel", "next", "()V"⟩, 45), (⟨"KeptInsideModel", "isWordByte", "()Z"⟩, 45), (⟨"KeptInsideModel", "isWord", "(IIII)Z"⟩, 45), (⟨"KeptInsideModel", "readMethod", "()Z"⟩, 45), (⟨"KeptInsideModel", "readLine", "(I)Z"⟩, 45), (⟨"KeptInsideModel", "nextName", "()I"⟩, 45), (⟨"KeptInsideModel", "isNext", "(I)Z"⟩, 45), (⟨"KeptInsideModel", "readRight", "(I)Z"⟩, 45), (⟨"KeptInsideModel", "note", "()V"⟩, 45), (⟨"KeptInsideModel", "isLine", "(II)Z"⟩, 45), (⟨"KeptInsideModel", "isMethod", "(I)Z"⟩, 45), (⟨"KeptInsideModel", "linesOf", "(I)I"⟩, 45), (⟨"KeptInsideModel", "findMays", "()V"⟩, 45)]
theorem lw_r4 : ∀ q ∈ lw_privs_4, lw_okq q := List.forall_mem_cons.mpr ⟨lw_p48, List.forall_mem_cons.mpr ⟨lw_p49, List.forall_mem_cons.mpr ⟨lw_p50, List.forall_mem_cons.mpr ⟨lw_p51, List.forall_mem_cons.mpr ⟨lw_p52, List.forall_mem_cons.mpr ⟨lw_p53, List.forall_mem_cons.mpr ⟨lw_p54, List.forall_mem_cons.mpr ⟨lw_p55, List.forall_mem_cons.mpr ⟨lw_p56, List.forall_mem_cons.mpr ⟨lw_p57, List.forall_mem_cons.mpr ⟨lw_p58, List.forall_mem_cons.mpr ⟨lw_p59, List.forall_mem_cons.mpr ⟨lw_p60, List.forall_mem_cons.mpr ⟨lw_p61, List.forall_mem_cons.mpr ⟨lw_p62, List.forall_mem_cons.mpr ⟨lw_p63, fun _ h => absurd h List.not_mem_nil⟩⟩⟩⟩⟩⟩⟩⟩⟩⟩⟩⟩⟩⟩⟩⟩
theorem lw_p64 : lw_okq (⟨"KeptInsideModel", "findSites", "()V"⟩, 45) := ⟨⟨by decide +kernel, by decide +kernel⟩, List.mem_of_getElem? (i := 933) (by decide +kernel), List.mem_of_getElem? (i := 1168) (by decide +kernel), List.mem_of_getElem? (i := 1169) (by decide +kernel)⟩
theorem lw_p65 : lw_okq (⟨"KeptInsideModel", "lineAt", "(III)I"⟩, 45) := ⟨⟨by decide +kernel, by decide +kernel⟩, List.mem_of_getElem? (i := 933) (by decide +kernel), List.mem_of_getElem? (i := 1172) (by decide +kernel), List.mem_of_getElem? (i := 1173) (by decide +kernel)⟩
theorem lw_p66 : lw_okq (⟨"KeptInsideModel", "goThrough", "(II)V"⟩, 45) := ⟨⟨by decide +kernel, by decide +kernel⟩, List.mem_of_getElem? (i := 933) (by decide +kernel), List.mem_of_getElem? (i := 1176) (by decide +kernel), List.mem_of_getElem? (i := 1177) (by decide +kernel)⟩
theorem lw_p67 : lw_okq (⟨"KeptInsideModel", "add", "(II)V"⟩, 45) := ⟨⟨by decide +kernel, by decide +kernel⟩, List.mem_of_getElem? (i := 933) (by decide +kernel), List.mem_of_getElem? (i := 1180) (by decide +kernel), List.mem_of_getElem? (i := 1181) (by decide +kernel)⟩
theorem lw_p68 : lw_okq (⟨"KeptInsideModel", "fields", "(I)I"⟩, 45) := ⟨⟨by decide +kernel, by decide +kernel⟩, List.mem_of_getElem? (i := 933) (by decide +kernel), List.mem_of_getElem? (i := 1187) (by decide +kernel), List.mem_of_getElem? (i := 1188) (by decide +kernel)⟩
theorem lw_p69 : lw_okq (⟨"KeptInsideModel", "ofMethod", "(II)I"⟩, 45) := ⟨⟨by decide +kernel, by decide +kernel⟩, List.mem_of_getElem? (i := 933) (by decide +kernel), List.mem_of_getElem? (i := 1191) (by decide +kernel), List.mem_of_getElem? (i := 1192) (by decide +kernel)⟩
theorem lw_p70 : lw_okq (⟨"KeptInsideModel", "idleOf", "(I)I"⟩, 45) := ⟨⟨by decide +kernel, by decide +kernel⟩, List.mem_of_getElem? (i := 933) (by decide +kernel), List.mem_of_getElem? (i := 1195) (by decide +kernel), List.mem_of_getElem? (i := 1196) (by decide +kernel)⟩
theorem lw_p71 : lw_okq (⟨"KeptInsideModel", "fated", "(I)I"⟩, 45) := ⟨⟨by decide +kernel, by decide +kernel⟩, List.mem_of_getElem? (i := 933) (by decide +kernel), List.mem_of_getElem? (i := 1199) (by decide +kernel), List.mem_of_getElem? (i := 1200) (by decide +kernel)⟩
theorem lw_p72 : lw_okq (⟨"KeptInsideModel", "fateOf", "(I)I"⟩, 45) := ⟨⟨by decide +kernel, by decide +kernel⟩, List.mem_of_getElem? (i := 933) (by decide +kernel), List.mem_of_getElem? (i := 1203) (by decide +kernel), List.mem_of_getElem? (i := 1204) (by decide +kernel)⟩
theorem lw_p73 : lw_okq (⟨"KeptInsideModel", "reachedFrom", "(I)I"⟩, 45) := ⟨⟨by decide +kernel, by decide +kernel⟩, List.mem_of_getElem? (i := 933) (by decide +kernel), List.mem_of_getElem? (i := 1207) (by decide +kernel), List.mem_of_getElem? (i := 1208) (by decide +kernel)⟩
theorem lw_p74 : lw_okq (⟨"KeptInsideModel", "ofLine", "(III)I"⟩, 45) := ⟨⟨by decide +kernel, by decide +kernel⟩, List.mem_of_getElem? (i := 933) (by decide +kernel), List.mem_of_getElem? (i := 1215) (by decide +kernel), List.mem_of_getElem? (i := 1216) (by decide +kernel)⟩
theorem lw_p75 : lw_okq (⟨"KeptInsideModel", "ofSite", "(II)I"⟩, 45) := ⟨⟨by decide +kernel, by decide +kernel⟩, List.mem_of_getElem? (i := 933) (by decide +kernel), List.mem_of_getElem? (i := 1223) (by decide +kernel), List.mem_of_getElem? (i := 1224) (by decide +kernel)⟩
theorem lw_p76 : lw_okq (⟨"KeptInsideModel", "goRun", "()V"⟩, 45) := ⟨⟨by decide +kernel, by decide +kernel⟩, List.mem_of_getElem? (i := 933) (by decide +kernel), List.mem_of_getElem? (i := 1250) (by decide +kernel), List.mem_of_getElem? (i := 1251) (by decide +kernel)⟩
theorem lw_p77 : lw_okq (⟨"KeptInsideModel", "call", "(II)V"⟩, 45) := ⟨⟨by decide +kernel, by decide +kernel⟩, List.mem_of_getElem? (i := 933) (by decide +kernel), List.mem_of_getElem? (i := 1254) (by decide +kernel), List.mem_of_getElem? (i := 1255) (by decide +kernel)⟩
theorem lw_p78 : lw_okq (⟨"KeptInsideModel", "step", "()V"⟩, 45) := ⟨⟨by decide +kernel, by decide +kernel⟩, List.mem_of_getElem? (i := 933) (by decide +kernel), List.mem_of_getElem? (i := 1258) (by decide +kernel), List.mem_of_getElem? (i := 1259) (by decide +kernel)⟩
theorem lw_p79 : lw_okq (⟨"KeptInsideModel", "end", "()V"⟩, 45) := ⟨⟨by decide +kernel, by decide +kernel⟩, List.mem_of_getElem? (i := 933) (by decide +kernel), List.mem_of_getElem? (i := 1262) (by decide +kernel), List.mem_of_getElem? (i := 1263) (by decide +kernel)⟩
def lw_privs_5 : List (MethodName × Nat) := [(⟨"KeptInsideModel", "findSites", "()V"⟩, 45), (⟨"KeptInsideModel", "lineAt", "(III)I"⟩, 45), (⟨"KeptInsideModel", "goThrough", "(II)V"⟩, 45), (⟨"KeptInsideModel", "add", "(II)V"⟩, 45), (⟨"KeptInsideModel", "fields", "(I)I"⟩, 45), (⟨"KeptInsideModel", "ofMethod", "(II)I"⟩, 45), (⟨"KeptInsideModel", "idleOf", "(I)I"⟩, 45), (⟨"KeptInsideModel", "fated", "(I)I"⟩, 45), (⟨"KeptInsideModel", "fateOf", "(I)I"⟩, 45), (⟨"KeptInsideModel", "reachedFrom", "(I)I"⟩, 45), (⟨"KeptInsideModel", "ofLine", "(III)I"⟩, 45), (⟨"KeptInsideModel", "ofSite", "(II)I"⟩, 45), (⟨"KeptInsideModel", "goRun", "()V"⟩, 45), (⟨"KeptInsideModel", "call", "(II)V"⟩, 45), (⟨"KeptInsideModel", "step", "()V"⟩, 45), (⟨"KeptInsideModel", "end", "()V"⟩, 45)]
theorem lw_r5 : ∀ q ∈ lw_privs_5, lw_okq q := List.forall_mem_cons.mpr ⟨lw_p64, List.forall_mem_cons.mpr ⟨lw_p65, List.forall_mem_cons.mpr ⟨lw_p66, List.forall_mem_cons.mpr ⟨lw_p67, List.forall_mem_cons.mpr ⟨lw_p68, List.forall_mem_cons.mpr ⟨lw_p69, List.forall_mem_cons.mpr ⟨lw_p70, List.forall_mem_cons.mpr ⟨lw_p71, List.forall_mem_cons.mpr ⟨lw_p72, List.forall_mem_cons.mpr ⟨lw_p73, List.forall_mem_cons.mpr ⟨lw_p74, List.forall_mem_cons.mpr ⟨lw_p75, List.forall_mem_cons.mpr ⟨lw_p76, List.forall_mem_cons.mpr ⟨lw_p77, List.forall_mem_cons.mpr ⟨lw_p78, List.forall_mem_cons.mpr ⟨lw_p79, fun _ h => absurd h List.not_mem_nil⟩⟩⟩⟩⟩⟩⟩⟩⟩⟩⟩⟩⟩⟩⟩⟩
theorem lw_p80 : lw_okq (⟨"KeptInsideModel", "follow", "(II)V"⟩, 45) := ⟨⟨by decide +kernel, by decide +kernel⟩, List.mem_of_getElem? (i := 933) (by decide +kernel), List.mem_of_getElem? (i := 1266) (by decide +kernel), List.mem_of_getElem? (i := 1267) (by decide +kernel)⟩
theorem lw_p81 : lw_okq (⟨"KeptInsideModel", "make", "(I)I"⟩, 45) := ⟨⟨by decide +kernel, by decide +kernel⟩, List.mem_of_getElem? (i := 933) (by decide +kernel), List.mem_of_getElem? (i := 1270) (by decide +kernel), List.mem_of_getElem? (i := 1271) (by decide +kernel)⟩
theorem lw_p82 : lw_okq (⟨"KeptInsideModel", "lock", "(III)V"⟩, 45) := ⟨⟨by decide +kernel, by decide +kernel⟩, List.mem_of_getElem? (i := 933) (by decide +kernel), List.mem_of_getElem? (i := 1274) (by decide +kernel), List.mem_of_getElem? (i := 1275) (by decide +kernel)⟩
theorem lw_p83 : lw_okq (⟨"KeptInsideModel", "ofRun", "(I)I"⟩, 45) := ⟨⟨by decide +kernel, by decide +kernel⟩, List.mem_of_getElem? (i := 933) (by decide +kernel), List.mem_of_getElem? (i := 1278) (by decide +kernel), List.mem_of_getElem? (i := 1279) (by decide +kernel)⟩
theorem lw_p84 : lw_okq (⟨"KeptInsideModel", "ranOf", "(II)I"⟩, 45) := ⟨⟨by decide +kernel, by decide +kernel⟩, List.mem_of_getElem? (i := 933) (by decide +kernel), List.mem_of_getElem? (i := 1286) (by decide +kernel), List.mem_of_getElem? (i := 1287) (by decide +kernel)⟩
theorem lw_p85 : lw_okq (⟨"KeptInsideModel", "heldNow", "()I"⟩, 45) := ⟨⟨by decide +kernel, by decide +kernel⟩, List.mem_of_getElem? (i := 933) (by decide +kernel), List.mem_of_getElem? (i := 1294) (by decide +kernel), List.mem_of_getElem? (i := 1295) (by decide +kernel)⟩
theorem lw_p86 : lw_okq (⟨"KeptInsideModel", "toldOf", "(I)I"⟩, 45) := ⟨⟨by decide +kernel, by decide +kernel⟩, List.mem_of_getElem? (i := 933) (by decide +kernel), List.mem_of_getElem? (i := 1306) (by decide +kernel), List.mem_of_getElem? (i := 1307) (by decide +kernel)⟩
def lw_privs_6 : List (MethodName × Nat) := [(⟨"KeptInsideModel", "follow", "(II)V"⟩, 45), (⟨"KeptInsideModel", "make", "(I)I"⟩, 45), (⟨"KeptInsideModel", "lock", "(III)V"⟩, 45), (⟨"KeptInsideModel", "ofRun", "(I)I"⟩, 45), (⟨"KeptInsideModel", "ranOf", "(II)I"⟩, 45), (⟨"KeptInsideModel", "heldNow", "()I"⟩, 45), (⟨"KeptInsideModel", "toldOf", "(I)I"⟩, 45)]
theorem lw_r6 : ∀ q ∈ lw_privs_6, lw_okq q := List.forall_mem_cons.mpr ⟨lw_p80, List.forall_mem_cons.mpr ⟨lw_p81, List.forall_mem_cons.mpr ⟨lw_p82, List.forall_mem_cons.mpr ⟨lw_p83, List.forall_mem_cons.mpr ⟨lw_p84, List.forall_mem_cons.mpr ⟨lw_p85, List.forall_mem_cons.mpr ⟨lw_p86, fun _ h => absurd h List.not_mem_nil⟩⟩⟩⟩⟩⟩⟩
def lw_privs : List (MethodName × Nat) := lw_privs_1 ++ (lw_privs_2 ++ (lw_privs_3 ++ (lw_privs_4 ++ (lw_privs_5 ++ (lw_privs_6)))))
def lw_tbl : List Cond := k2_sels lw_privs ++ tables_1
theorem lw_privs_ok : ∀ q ∈ lw_privs, lw_okq q := by
  show ∀ q ∈ lw_privs_1 ++ (lw_privs_2 ++ (lw_privs_3 ++ (lw_privs_4 ++ (lw_privs_5 ++ (lw_privs_6))))), lw_okq q
  exact List.forall_mem_append.mpr ⟨lw_r1, List.forall_mem_append.mpr ⟨lw_r2, List.forall_mem_append.mpr ⟨lw_r3, List.forall_mem_append.mpr ⟨lw_r4, List.forall_mem_append.mpr ⟨lw_r5, lw_r6⟩⟩⟩⟩⟩

/-- the good words of the tables -/
def gtbl : List Cond := lw_tbl.filter goodWord
theorem gw_of {i : Nat} {w : Cond} (h : lw_tbl[i]? = some w) (hg : goodWord w = true) : w ∈ gtbl := List.mem_filter.mpr ⟨List.mem_of_getElem? h, hg⟩
theorem gw_good : ∀ w ∈ gtbl, (w.onTables && w.keeps) = true ∨ ∃ ty, w = .arrayClass ty := fun _ h => good_of_word (List.mem_filter.mp h).2
theorem gw_in {args : Array Value} {s : State} (h : ∀ w ∈ lw_tbl, w.before args s = true) : ∀ w ∈ gtbl, w.before args s = true := fun w hw => h w (List.mem_filter.mp hw).1
abbrev RX0 : String := "KeptInside$Fates"
abbrev RX1 : String := "KeptInside$MaySets"
abbrev RX2 : String := "KeptInside$Methods"
abbrev RX3 : String := "KeptInside$Reader"
abbrev RX4 : String := "KeptInside$Sites"
abbrev RX5 : String := "KeptInside$States"
abbrev RX6 : String := "KeptInside$Text"
abbrev RX7 : String := "KeptInside$Tokens"
abbrev RX8 : String := "KeptInside$Trial"
abbrev RX9 : String := "KeptInside"
abbrev RX10 : String := "KeptInsideModel"
abbrev RJ0 : String := "java/lang/String"
abbrev RJ1 : String := "java/lang/StringLatin1"
abbrev RJ3 : String := "jdk/internal/util/Preconditions"
abbrev RJ7 : String := "java/util/Arrays"
abbrev RJ10 : String := "java/lang/System"
abbrev RL : String := "KeptInsideLaw"
def TX0 : u_T := fun k => match k with
  | 0 => ("KeptInside$Fates", "methods", "LKeptInside$Methods;", true)
  | 1 => ("KeptInside$Fates", "sites", "LKeptInside$Sites;", true)
  | 2 => ("KeptInside$Fates", "mays", "LKeptInside$MaySets;", true)
  | 3 => ("KeptInside$Fates", "ofSites", "[I", true)
  | _ => ("KeptInside$Fates", "idle", "[I", true)
def tyX0 : Nat → FieldType := fun k => match k with
  | 0 => (.object "KeptInside$Methods")
  | 1 => (.object "KeptInside$Sites")
  | 2 => (.object "KeptInside$MaySets")
  | 3 => (.array .int)
  | _ => (.array .int)
def TX1 : u_T := fun k => match k with
  | 0 => ("KeptInside$MaySets", "methods", "LKeptInside$Methods;", true)
  | 1 => ("KeptInside$MaySets", "sites", "LKeptInside$Sites;", true)
  | 2 => ("KeptInside$MaySets", "names", "[I", true)
  | 3 => ("KeptInside$MaySets", "fields", "[I", true)
  | 4 => ("KeptInside$MaySets", "openPlace", "I", false)
  | _ => ("KeptInside$MaySets", "grew", "Z", false)
def tyX1 : Nat → FieldType := fun k => match k with
  | 0 => (.object "KeptInside$Methods")
  | 1 => (.object "KeptInside$Sites")
  | 2 => (.array .int)
  | 3 => (.array .int)
  | 4 => .int
  | _ => .boolean
def TX2 : u_T := fun k => match k with
  | 0 => ("KeptInside$Methods", "count", "I", false)
  | 1 => ("KeptInside$Methods", "lines", "[I", true)
  | _ => ("KeptInside$Methods", "codes", "[I", true)
def tyX2 : Nat → FieldType := fun k => match k with
  | 0 => .int
  | 1 => (.array .int)
  | _ => (.array .int)
def TX3 : u_T := fun k => match k with
  | 0 => ("KeptInside$Reader", "text", "LKeptInside$Text;", true)
  | 1 => ("KeptInside$Reader", "methods", "LKeptInside$Methods;", true)
  | 2 => ("KeptInside$Reader", "tokens", "LKeptInside$Tokens;", true)
  | 3 => ("KeptInside$Reader", "fault", "I", false)
  | 4 => ("KeptInside$Reader", "firstCall", "[I", true)
  | 5 => ("KeptInside$Reader", "sort", "I", false)
  | 6 => ("KeptInside$Reader", "x", "I", false)
  | 7 => ("KeptInside$Reader", "y", "I", false)
  | _ => ("KeptInside$Reader", "callee", "I", false)
def tyX3 : Nat → FieldType := fun k => match k with
  | 0 => (.object "KeptInside$Text")
  | 1 => (.object "KeptInside$Methods")
  | 2 => (.object "KeptInside$Tokens")
  | 3 => .int
  | 4 => (.array .int)
  | 5 => .int
  | 6 => .int
  | 7 => .int
  | _ => .int
def TX4 : u_T := fun k => match k with
  | 0 => ("KeptInside$Sites", "count", "I", false)
  | 1 => ("KeptInside$Sites", "places", "[I", true)
  | 2 => ("KeptInside$Sites", "ofLines", "[I", true)
  | _ => ("KeptInside$Sites", "inMethods", "[I", true)
def tyX4 : Nat → FieldType := fun k => match k with
  | 0 => .int
  | 1 => (.array .int)
  | 2 => (.array .int)
  | _ => (.array .int)
def TX5 : u_T := fun k => match k with
  | 0 => ("KeptInside$States", "kept", "[LKeptInside$Methods;", true)
  | _ => ("KeptInside$States", "count", "I", false)
def tyX5 : Nat → FieldType := fun k => match k with
  | 0 => (.array (.object "KeptInside$Methods"))
  | _ => .int
def TX6 : u_T := fun k => match k with
  | 0 => ("KeptInside$Text", "bytes", "[B", true)
  | _ => ("KeptInside$Text", "length", "I", false)
def tyX6 : Nat → FieldType := fun k => match k with
  | 0 => (.array .byte)
  | _ => .int
def TX7 : u_T := fun k => match k with
  | 0 => ("KeptInside$Tokens", "kinds", "[I", true)
  | 1 => ("KeptInside$Tokens", "places", "[I", true)
  | 2 => ("KeptInside$Tokens", "count", "I", false)
  | 3 => ("KeptInside$Tokens", "next", "I", false)
  | _ => ("KeptInside$Tokens", "textLength", "I", false)
def tyX7 : Nat → FieldType := fun k => match k with
  | 0 => (.array .int)
  | 1 => (.array .int)
  | 2 => .int
  | 3 => .int
  | _ => .int
def TX8 : u_T := fun k => match k with
  | 0 => ("KeptInside$Trial", "methods", "LKeptInside$Methods;", true)
  | 1 => ("KeptInside$Trial", "sites", "LKeptInside$Sites;", true)
  | 2 => ("KeptInside$Trial", "fates", "LKeptInside$Fates;", true)
  | 3 => ("KeptInside$Trial", "names", "[I", true)
  | 4 => ("KeptInside$Trial", "openPlace", "I", false)
  | 5 => ("KeptInside$Trial", "siteOf", "[I", false)
  | 6 => ("KeptInside$Trial", "fieldOf", "[I", false)
  | 7 => ("KeptInside$Trial", "makerOf", "[I", false)
  | 8 => ("KeptInside$Trial", "seenBy", "[I", false)
  | 9 => ("KeptInside$Trial", "failed", "Z", false)
  | 10 => ("KeptInside$Trial", "made", "I", false)
  | 11 => ("KeptInside$Trial", "locks", "I", false)
  | 12 => ("KeptInside$Trial", "idleLocks", "I", false)
  | 13 => ("KeptInside$Trial", "calls", "I", false)
  | 14 => ("KeptInside$Trial", "leaks", "I", false)
  | 15 => ("KeptInside$Trial", "madeOf", "[I", true)
  | 16 => ("KeptInside$Trial", "leaksOf", "[I", true)
  | _ => ("KeptInside$Trial", "locksOf", "[I", true)
def tyX8 : Nat → FieldType := fun k => match k with
  | 0 => (.object "KeptInside$Methods")
  | 1 => (.object "KeptInside$Sites")
  | 2 => (.object "KeptInside$Fates")
  | 3 => (.array .int)
  | 4 => .int
  | 5 => (.array .int)
  | 6 => (.array .int)
  | 7 => (.array .int)
  | 8 => (.array .int)
  | 9 => .boolean
  | 10 => .int
  | 11 => .int
  | 12 => .int
  | 13 => .int
  | 14 => .int
  | 15 => (.array .int)
  | 16 => (.array .int)
  | _ => (.array .int)
def TX9 : u_T := fun k => match k with
  | 0 => ("KeptInside", "text", "LKeptInside$Text;", true)
  | 1 => ("KeptInside", "methods", "LKeptInside$Methods;", true)
  | 2 => ("KeptInside", "newMethods", "LKeptInside$Methods;", true)
  | 3 => ("KeptInside", "reader", "LKeptInside$Reader;", true)
  | 4 => ("KeptInside", "states", "LKeptInside$States;", true)
  | 5 => ("KeptInside", "sites", "LKeptInside$Sites;", true)
  | 6 => ("KeptInside", "mays", "LKeptInside$MaySets;", true)
  | 7 => ("KeptInside", "siteFates", "LKeptInside$Fates;", true)
  | 8 => ("KeptInside", "trial", "LKeptInside$Trial;", true)
  | 9 => ("KeptInside", "timesBad", "I", false)
  | 10 => ("KeptInside", "timesNo", "I", false)
  | 11 => ("KeptInside", "timesFull", "I", false)
  | 12 => ("KeptInside", "maysFound", "Z", false)
  | _ => ("KeptInside", "runFound", "Z", false)
def tyX9 : Nat → FieldType := fun k => match k with
  | 0 => (.object "KeptInside$Text")
  | 1 => (.object "KeptInside$Methods")
  | 2 => (.object "KeptInside$Methods")
  | 3 => (.object "KeptInside$Reader")
  | 4 => (.object "KeptInside$States")
  | 5 => (.object "KeptInside$Sites")
  | 6 => (.object "KeptInside$MaySets")
  | 7 => (.object "KeptInside$Fates")
  | 8 => (.object "KeptInside$Trial")
  | 9 => .int
  | 10 => .int
  | 11 => .int
  | 12 => .boolean
  | _ => .boolean
def TX10 : u_T := fun k => match k with
  | 0 => ("KeptInsideModel", "now", "[I", true)
  | 1 => ("KeptInsideModel", "read", "[I", true)
  | 2 => ("KeptInsideModel", "past", "[I", true)
  | 3 => ("KeptInsideModel", "states", "I", false)
  | 4 => ("KeptInsideModel", "refused", "[I", true)
  | 5 => ("KeptInsideModel", "text", "[I", true)
  | 6 => ("KeptInsideModel", "bytes", "I", false)
  | 7 => ("KeptInsideModel", "at", "I", false)
  | 8 => ("KeptInsideModel", "token", "I", false)
  | 9 => ("KeptInsideModel", "tokenAt", "I", false)
  | 10 => ("KeptInsideModel", "called", "[I", true)
  | 11 => ("KeptInsideModel", "calledAt", "[I", true)
  | 12 => ("KeptInsideModel", "calledMany", "I", false)
  | 13 => ("KeptInsideModel", "sort", "I", false)
  | 14 => ("KeptInsideModel", "left", "I", false)
  | 15 => ("KeptInsideModel", "right", "I", false)
  | 16 => ("KeptInsideModel", "callee", "I", false)
  | 17 => ("KeptInsideModel", "siteMethod", "[I", true)
  | 18 => ("KeptInsideModel", "siteLine", "[I", true)
  | 19 => ("KeptInsideModel", "siteAt", "[I", true)
  | 20 => ("KeptInsideModel", "sites", "I", false)
  | 21 => ("KeptInsideModel", "mays", "[I", true)
  | 22 => ("KeptInsideModel", "isMore", "Z", false)
  | 23 => ("KeptInsideModel", "thingSite", "[I", true)
  | 24 => ("KeptInsideModel", "thingField", "[I", true)
  | 25 => ("KeptInsideModel", "thingCall", "[I", true)
  | 26 => ("KeptInsideModel", "mark", "[I", true)
  | 27 => ("KeptInsideModel", "things", "I", false)
  | 28 => ("KeptInsideModel", "openThing", "I", false)
  | 29 => ("KeptInsideModel", "names", "[I", true)
  | 30 => ("KeptInsideModel", "frameMethod", "[I", true)
  | 31 => ("KeptInsideModel", "frameLine", "[I", true)
  | 32 => ("KeptInsideModel", "frameCall", "[I", true)
  | 33 => ("KeptInsideModel", "frameGiven", "[I", true)
  | 34 => ("KeptInsideModel", "frameFirst", "[I", true)
  | 35 => ("KeptInsideModel", "depth", "I", false)
  | 36 => ("KeptInsideModel", "fails", "Z", false)
  | 37 => ("KeptInsideModel", "locks", "I", false)
  | 38 => ("KeptInsideModel", "idleLocks", "I", false)
  | 39 => ("KeptInsideModel", "calls", "I", false)
  | 40 => ("KeptInsideModel", "leaks", "I", false)
  | 41 => ("KeptInsideModel", "idles", "[I", true)
  | 42 => ("KeptInsideModel", "made", "[I", true)
  | 43 => ("KeptInsideModel", "leaked", "[I", true)
  | _ => ("KeptInsideModel", "lockedOf", "[I", true)
def tyX10 : Nat → FieldType := fun k => match k with
  | 0 => (.array .int)
  | 1 => (.array .int)
  | 2 => (.array .int)
  | 3 => .int
  | 4 => (.array .int)
  | 5 => (.array .int)
  | 6 => .int
  | 7 => .int
  | 8 => .int
  | 9 => .int
  | 10 => (.array .int)
  | 11 => (.array .int)
  | 12 => .int
  | 13 => .int
  | 14 => .int
  | 15 => .int
  | 16 => .int
  | 17 => (.array .int)
  | 18 => (.array .int)
  | 19 => (.array .int)
  | 20 => .int
  | 21 => (.array .int)
  | 22 => .boolean
  | 23 => (.array .int)
  | 24 => (.array .int)
  | 25 => (.array .int)
  | 26 => (.array .int)
  | 27 => .int
  | 28 => .int
  | 29 => (.array .int)
  | 30 => (.array .int)
  | 31 => (.array .int)
  | 32 => (.array .int)
  | 33 => (.array .int)
  | 34 => (.array .int)
  | 35 => .int
  | 36 => .boolean
  | 37 => .int
  | 38 => .int
  | 39 => .int
  | 40 => .int
  | 41 => (.array .int)
  | 42 => (.array .int)
  | 43 => (.array .int)
  | _ => (.array .int)
abbrev vwC : List vw_C := [(RX0, TX0, 5), (RX1, TX1, 6), (RX2, TX2, 3), (RX3, TX3, 9), (RX4, TX4, 4), (RX5, TX5, 2), (RX6, TX6, 2), (RX7, TX7, 5), (RX8, TX8, 18), (RX9, TX9, 14), (RX10, TX10, 45)]
/-- which fields of a class are references -/
def fkT : List (List Bool) := [[true, true, true, true, true], [true, true, true, true, false, false], [false, true, true], [true, true, true, false, true, false, false, false, false], [false, true, true, true], [true, false], [true, false], [true, true, false, false, false], [true, true, true, true, false, true, true, true, true, false, false, false, false, false, false, true, true, true], [true, true, true, true, true, true, true, true, true, false, false, false, false, false], [true, true, true, false, true, true, false, false, false, false, true, true, false, false, false, false, false, true, true, true, false, true, false, true, true, true, true, false, false, true, true, true, true, true, true, false, false, false, false, false, false, true, true, true, true]]
theorem nmX0 : ∀ a, a < 5 → ∀ b, b < 5 → a ≠ b → (TX0 a).2.1 ≠ (TX0 b).2.1 := by decide +kernel
theorem tyX0_ok : ∀ k, k < 5 → parseFieldDescriptor (TX0 k).2.2.1 = some (tyX0 k) := by decide +kernel
theorem inX0 : ∀ w ∈ u_ws RX0 TX0 5, w ∈ gtbl := by
  have h : u_ws RX0 TX0 5 = [272, 274, 276, 278, 280].filterMap (fun i => lw_tbl[i]?) := by decide +kernel
  intro w hw
  have hg : (u_ws RX0 TX0 5).all goodWord = true := by decide +kernel
  have h1 := List.all_eq_true.mp hg w hw
  rw [h] at hw
  obtain ⟨i, -, hi⟩ := List.mem_filterMap.mp hw
  exact gw_of hi h1
theorem nmX1 : ∀ a, a < 6 → ∀ b, b < 6 → a ≠ b → (TX1 a).2.1 ≠ (TX1 b).2.1 := by decide +kernel
theorem tyX1_ok : ∀ k, k < 6 → parseFieldDescriptor (TX1 k).2.2.1 = some (tyX1 k) := by decide +kernel
theorem inX1 : ∀ w ∈ u_ws RX1 TX1 6, w ∈ gtbl := by
  have h : u_ws RX1 TX1 6 = [248, 250, 252, 254, 256, 258].filterMap (fun i => lw_tbl[i]?) := by decide +kernel
  intro w hw
  have hg : (u_ws RX1 TX1 6).all goodWord = true := by decide +kernel
  have h1 := List.all_eq_true.mp hg w hw
  rw [h] at hw
  obtain ⟨i, -, hi⟩ := List.mem_filterMap.mp hw
  exact gw_of hi h1
theorem nmX2 : ∀ a, a < 3 → ∀ b, b < 3 → a ≠ b → (TX2 a).2.1 ≠ (TX2 b).2.1 := by decide +kernel
theorem tyX2_ok : ∀ k, k < 3 → parseFieldDescriptor (TX2 k).2.2.1 = some (tyX2 k) := by decide +kernel
theorem inX2 : ∀ w ∈ u_ws RX2 TX2 3, w ∈ gtbl := by
  have h : u_ws RX2 TX2 3 = [137, 139, 141].filterMap (fun i => lw_tbl[i]?) := by decide +kernel
  intro w hw
  have hg : (u_ws RX2 TX2 3).all goodWord = true := by decide +kernel
  have h1 := List.all_eq_true.mp hg w hw
  rw [h] at hw
  obtain ⟨i, -, hi⟩ := List.mem_filterMap.mp hw
  exact gw_of hi h1
theorem nmX3 : ∀ a, a < 9 → ∀ b, b < 9 → a ≠ b → (TX3 a).2.1 ≠ (TX3 b).2.1 := by decide +kernel
theorem tyX3_ok : ∀ k, k < 9 → parseFieldDescriptor (TX3 k).2.2.1 = some (tyX3 k) := by decide +kernel
theorem inX3 : ∀ w ∈ u_ws RX3 TX3 9, w ∈ gtbl := by
  have h : u_ws RX3 TX3 9 = [182, 184, 186, 188, 190, 192, 194, 196, 198].filterMap (fun i => lw_tbl[i]?) := by decide +kernel
  intro w hw
  have hg : (u_ws RX3 TX3 9).all goodWord = true := by decide +kernel
  have h1 := List.all_eq_true.mp hg w hw
  rw [h] at hw
  obtain ⟨i, -, hi⟩ := List.mem_filterMap.mp hw
  exact gw_of hi h1
theorem nmX4 : ∀ a, a < 4 → ∀ b, b < 4 → a ≠ b → (TX4 a).2.1 ≠ (TX4 b).2.1 := by decide +kernel
theorem tyX4_ok : ∀ k, k < 4 → parseFieldDescriptor (TX4 k).2.2.1 = some (tyX4 k) := by decide +kernel
theorem inX4 : ∀ w ∈ u_ws RX4 TX4 4, w ∈ gtbl := by
  have h : u_ws RX4 TX4 4 = [227, 229, 231, 233].filterMap (fun i => lw_tbl[i]?) := by decide +kernel
  intro w hw
  have hg : (u_ws RX4 TX4 4).all goodWord = true := by decide +kernel
  have h1 := List.all_eq_true.mp hg w hw
  rw [h] at hw
  obtain ⟨i, -, hi⟩ := List.mem_filterMap.mp hw
  exact gw_of hi h1
theorem nmX5 : ∀ a, a < 2 → ∀ b, b < 2 → a ≠ b → (TX5 a).2.1 ≠ (TX5 b).2.1 := by decide +kernel
theorem tyX5_ok : ∀ k, k < 2 → parseFieldDescriptor (TX5 k).2.2.1 = some (tyX5 k) := by decide +kernel
theorem inX5 : ∀ w ∈ u_ws RX5 TX5 2, w ∈ gtbl := by
  have h : u_ws RX5 TX5 2 = [212, 214].filterMap (fun i => lw_tbl[i]?) := by decide +kernel
  intro w hw
  have hg : (u_ws RX5 TX5 2).all goodWord = true := by decide +kernel
  have h1 := List.all_eq_true.mp hg w hw
  rw [h] at hw
  obtain ⟨i, -, hi⟩ := List.mem_filterMap.mp hw
  exact gw_of hi h1
theorem nmX6 : ∀ a, a < 2 → ∀ b, b < 2 → a ≠ b → (TX6 a).2.1 ≠ (TX6 b).2.1 := by decide +kernel
theorem tyX6_ok : ∀ k, k < 2 → parseFieldDescriptor (TX6 k).2.2.1 = some (tyX6 k) := by decide +kernel
theorem inX6 : ∀ w ∈ u_ws RX6 TX6 2, w ∈ gtbl := by
  have h : u_ws RX6 TX6 2 = [122, 124].filterMap (fun i => lw_tbl[i]?) := by decide +kernel
  intro w hw
  have hg : (u_ws RX6 TX6 2).all goodWord = true := by decide +kernel
  have h1 := List.all_eq_true.mp hg w hw
  rw [h] at hw
  obtain ⟨i, -, hi⟩ := List.mem_filterMap.mp hw
  exact gw_of hi h1
theorem nmX7 : ∀ a, a < 5 → ∀ b, b < 5 → a ≠ b → (TX7 a).2.1 ≠ (TX7 b).2.1 := by decide +kernel
theorem tyX7_ok : ∀ k, k < 5 → parseFieldDescriptor (TX7 k).2.2.1 = some (tyX7 k) := by decide +kernel
theorem inX7 : ∀ w ∈ u_ws RX7 TX7 5, w ∈ gtbl := by
  have h : u_ws RX7 TX7 5 = [162, 164, 166, 168, 170].filterMap (fun i => lw_tbl[i]?) := by decide +kernel
  intro w hw
  have hg : (u_ws RX7 TX7 5).all goodWord = true := by decide +kernel
  have h1 := List.all_eq_true.mp hg w hw
  rw [h] at hw
  obtain ⟨i, -, hi⟩ := List.mem_filterMap.mp hw
  exact gw_of hi h1
theorem nmX8 : ∀ a, a < 18 → ∀ b, b < 18 → a ≠ b → (TX8 a).2.1 ≠ (TX8 b).2.1 := by decide +kernel
theorem tyX8_ok : ∀ k, k < 18 → parseFieldDescriptor (TX8 k).2.2.1 = some (tyX8 k) := by decide +kernel
theorem inX8 : ∀ w ∈ u_ws RX8 TX8 18, w ∈ gtbl := by
  have h : u_ws RX8 TX8 18 = [307, 309, 311, 313, 315, 317, 319, 321, 323, 325, 327, 329, 331, 333, 335, 337, 339, 341].filterMap (fun i => lw_tbl[i]?) := by decide +kernel
  intro w hw
  have hg : (u_ws RX8 TX8 18).all goodWord = true := by decide +kernel
  have h1 := List.all_eq_true.mp hg w hw
  rw [h] at hw
  obtain ⟨i, -, hi⟩ := List.mem_filterMap.mp hw
  exact gw_of hi h1
theorem nmX9 : ∀ a, a < 14 → ∀ b, b < 14 → a ≠ b → (TX9 a).2.1 ≠ (TX9 b).2.1 := by decide +kernel
theorem tyX9_ok : ∀ k, k < 14 → parseFieldDescriptor (TX9 k).2.2.1 = some (tyX9 k) := by decide +kernel
theorem inX9 : ∀ w ∈ u_ws RX9 TX9 14, w ∈ gtbl := by
  have h : u_ws RX9 TX9 14 = [358, 360, 362, 364, 366, 368, 370, 372, 374, 376, 378, 380, 382, 384].filterMap (fun i => lw_tbl[i]?) := by decide +kernel
  intro w hw
  have hg : (u_ws RX9 TX9 14).all goodWord = true := by decide +kernel
  have h1 := List.all_eq_true.mp hg w hw
  rw [h] at hw
  obtain ⟨i, -, hi⟩ := List.mem_filterMap.mp hw
  exact gw_of hi h1
theorem nmX10 : ∀ a, a < 45 → ∀ b, b < 45 → a ≠ b → (TX10 a).2.1 ≠ (TX10 b).2.1 := by decide +kernel
theorem tyX10_ok : ∀ k, k < 45 → parseFieldDescriptor (TX10 k).2.2.1 = some (tyX10 k) := by decide +kernel
theorem inX10 : ∀ w ∈ u_ws RX10 TX10 45, w ∈ gtbl := by
  have h : u_ws RX10 TX10 45 = [1070, 1072, 1074, 1076, 1078, 1080, 1082, 1084, 1086, 1088, 1090, 1092, 1094, 1096, 1098, 1100, 1102, 1104, 1106, 1108, 1110, 1112, 1114, 1116, 1118, 1120, 1122, 1124, 1126, 1128, 1130, 1132, 1134, 1136, 1138, 1140, 1142, 1144, 1146, 1148, 1150, 1152, 1154, 1156, 1158].filterMap (fun i => lw_tbl[i]?) := by decide +kernel
  intro w hw
  have hg : (u_ws RX10 TX10 45).all goodWord = true := by decide +kernel
  have h1 := List.all_eq_true.mp hg w hw
  rw [h] at hw
  obtain ⟨i, -, hi⟩ := List.mem_filterMap.mp hw
  exact gw_of hi h1
/-- what holds of each class of the table -/
def clOk (ci : Nat) (C : String) (T : u_T) (N : Nat) : Prop := (∀ w ∈ u_ws C T N, w ∈ gtbl) ∧ (∃ ty : Nat → FieldType, ∀ k, k < N → parseFieldDescriptor (T k).2.2.1 = some (ty k)) ∧ (∀ a, a < N → ∀ b, b < N → a ≠ b → (T a).2.1 ≠ (T b).2.1) ∧ (fkT.getD ci []).length = N
theorem cl_ok : ∀ (ci : Nat) (C : String) (T : u_T) (N : Nat), vwC[ci]? = some (C, T, N) → clOk ci C T N := by
  intro ci C T N h
  match ci, h with
  | 0, h => cases h; exact ⟨inX0, ⟨tyX0, tyX0_ok⟩, nmX0, rfl⟩
  | 1, h => cases h; exact ⟨inX1, ⟨tyX1, tyX1_ok⟩, nmX1, rfl⟩
  | 2, h => cases h; exact ⟨inX2, ⟨tyX2, tyX2_ok⟩, nmX2, rfl⟩
  | 3, h => cases h; exact ⟨inX3, ⟨tyX3, tyX3_ok⟩, nmX3, rfl⟩
  | 4, h => cases h; exact ⟨inX4, ⟨tyX4, tyX4_ok⟩, nmX4, rfl⟩
  | 5, h => cases h; exact ⟨inX5, ⟨tyX5, tyX5_ok⟩, nmX5, rfl⟩
  | 6, h => cases h; exact ⟨inX6, ⟨tyX6, tyX6_ok⟩, nmX6, rfl⟩
  | 7, h => cases h; exact ⟨inX7, ⟨tyX7, tyX7_ok⟩, nmX7, rfl⟩
  | 8, h => cases h; exact ⟨inX8, ⟨tyX8, tyX8_ok⟩, nmX8, rfl⟩
  | 9, h => cases h; exact ⟨inX9, ⟨tyX9, tyX9_ok⟩, nmX9, rfl⟩
  | 10, h => cases h; exact ⟨inX10, ⟨tyX10, tyX10_ok⟩, nmX10, rfl⟩
  | k + 11, h => simp at h
abbrev Mt : Type := MethodName × ByteArray × Nat × Option FieldType
abbrev yX0_init : MethodName := ⟨RX0, "<init>", "(LKeptInside$Methods;LKeptInside$Sites;LKeptInside$MaySets;)V"⟩
abbrev mX0_init : Mt := (yX0_init, prog_2_method_1_code, 4, none)
abbrev yX0_ofSite : MethodName := ⟨RX0, "ofSite", "(I)I"⟩
abbrev mX0_ofSite : Mt := (yX0_ofSite, prog_2_method_2_code, 2, (some .int))
abbrev yX0_idleLines : MethodName := ⟨RX0, "idleLines", "(I)I"⟩
abbrev mX0_idleLines : Mt := (yX0_idleLines, prog_2_method_3_code, 2, (some .int))
abbrev yX0_countOf : MethodName := ⟨RX0, "countOf", "(I)I"⟩
abbrev mX0_countOf : Mt := (yX0_countOf, prog_2_method_4_code, 4, (some .int))
abbrev yX0_keptIn : MethodName := ⟨RX0, "keptIn", "(I)I"⟩
abbrev mX0_keptIn : Mt := (yX0_keptIn, prog_2_method_5_code, 4, (some .int))
abbrev yX0_find : MethodName := ⟨RX0, "find", "()V"⟩
abbrev mX0_find : Mt := (yX0_find, prog_2_method_6_code, 4, none)
abbrev yX0_giveFates : MethodName := ⟨RX0, "giveFates", "(III)V"⟩
abbrev mX0_giveFates : Mt := (yX0_giveFates, prog_2_method_7_code, 5, none)
abbrev yX0_fateOf : MethodName := ⟨RX0, "fateOf", "(II)I"⟩
abbrev mX0_fateOf : Mt := (yX0_fateOf, prog_2_method_8_code, 2, (some .int))
abbrev yX0_allKept : MethodName := ⟨RX0, "allKept", "()I"⟩
abbrev mX0_allKept : Mt := (yX0_allKept, prog_2_method_9_code, 3, (some .int))
abbrev yX0_idleAmong : MethodName := ⟨RX0, "idleAmong", "(II)I"⟩
abbrev mX0_idleAmong : Mt := (yX0_idleAmong, prog_2_method_10_code, 6, (some .int))
abbrev yX1_init : MethodName := ⟨RX1, "<init>", "(LKeptInside$Methods;LKeptInside$Sites;)V"⟩
abbrev mX1_init : Mt := (yX1_init, prog_3_method_1_code, 3, none)
abbrev yX1_inName : MethodName := ⟨RX1, "inName", "(II)I"⟩
abbrev mX1_inName : Mt := (yX1_inName, prog_3_method_2_code, 3, (some .int))
abbrev yX1_inField : MethodName := ⟨RX1, "inField", "(I)I"⟩
abbrev mX1_inField : Mt := (yX1_inField, prog_3_method_3_code, 2, (some .int))
abbrev yX1_inOpenPlace : MethodName := ⟨RX1, "inOpenPlace", "()I"⟩
abbrev mX1_inOpenPlace : Mt := (yX1_inOpenPlace, prog_3_method_4_code, 1, (some .int))
abbrev yX1_reachedFrom : MethodName := ⟨RX1, "reachedFrom", "(I)I"⟩
abbrev mX1_reachedFrom : Mt := (yX1_reachedFrom, prog_3_method_5_code, 5, (some .int))
abbrev yX1_find : MethodName := ⟨RX1, "find", "()V"⟩
abbrev mX1_find : Mt := (yX1_find, prog_3_method_6_code, 4, none)
abbrev yX1_addByLine : MethodName := ⟨RX1, "addByLine", "(II)V"⟩
abbrev mX1_addByLine : Mt := (yX1_addByLine, prog_3_method_7_code, 5, none)
abbrev yX1_addToName : MethodName := ⟨RX1, "addToName", "(III)V"⟩
abbrev mX1_addToName : Mt := (yX1_addToName, prog_3_method_8_code, 5, none)
abbrev yX1_addToOpenPlace : MethodName := ⟨RX1, "addToOpenPlace", "(I)V"⟩
abbrev mX1_addToOpenPlace : Mt := (yX1_addToOpenPlace, prog_3_method_9_code, 2, none)
abbrev yX1_addToFields : MethodName := ⟨RX1, "addToFields", "(II)V"⟩
abbrev mX1_addToFields : Mt := (yX1_addToFields, prog_3_method_10_code, 4, none)
abbrev yX1_inFields : MethodName := ⟨RX1, "inFields", "(I)I"⟩
abbrev mX1_inFields : Mt := (yX1_inFields, prog_3_method_11_code, 4, (some .int))
abbrev yX2_init : MethodName := ⟨RX2, "<init>", "()V"⟩
abbrev mX2_init : Mt := (yX2_init, prog_4_method_1_code, 1, none)
abbrev yX2_count : MethodName := ⟨RX2, "count", "()I"⟩
abbrev mX2_count : Mt := (yX2_count, prog_4_method_2_code, 1, (some .int))
abbrev yX2_has : MethodName := ⟨RX2, "has", "(I)Z"⟩
abbrev mX2_has : Mt := (yX2_has, prog_4_method_3_code, 2, (some .boolean))
abbrev yX2_lines : MethodName := ⟨RX2, "lines", "(I)I"⟩
abbrev mX2_lines : Mt := (yX2_lines, prog_4_method_4_code, 2, (some .int))
abbrev yX2_hasLine : MethodName := ⟨RX2, "hasLine", "(II)Z"⟩
abbrev mX2_hasLine : Mt := (yX2_hasLine, prog_4_method_5_code, 3, (some .boolean))
abbrev yX2_sort : MethodName := ⟨RX2, "sort", "(II)I"⟩
abbrev mX2_sort : Mt := (yX2_sort, prog_4_method_6_code, 3, (some .int))
abbrev yX2_name : MethodName := ⟨RX2, "name", "(II)I"⟩
abbrev mX2_name : Mt := (yX2_name, prog_4_method_7_code, 3, (some .int))
abbrev yX2_hasOther : MethodName := ⟨RX2, "hasOther", "(II)Z"⟩
abbrev mX2_hasOther : Mt := (yX2_hasOther, prog_4_method_8_code, 4, (some .boolean))
abbrev yX2_other : MethodName := ⟨RX2, "other", "(II)I"⟩
abbrev mX2_other : Mt := (yX2_other, prog_4_method_9_code, 3, (some .int))
abbrev yX2_callee : MethodName := ⟨RX2, "callee", "(II)I"⟩
abbrev mX2_callee : Mt := (yX2_callee, prog_4_method_10_code, 3, (some .int))
abbrev yX2_calledBy : MethodName := ⟨RX2, "calledBy", "(I)I"⟩
abbrev mX2_calledBy : Mt := (yX2_calledBy, prog_4_method_11_code, 4, (some .int))
abbrev yX2_becomeNone : MethodName := ⟨RX2, "becomeNone", "()V"⟩
abbrev mX2_becomeNone : Mt := (yX2_becomeNone, prog_4_method_12_code, 1, none)
abbrev yX2_addMethod : MethodName := ⟨RX2, "addMethod", "()V"⟩
abbrev mX2_addMethod : Mt := (yX2_addMethod, prog_4_method_13_code, 1, none)
abbrev yX2_addLine : MethodName := ⟨RX2, "addLine", "(IIII)V"⟩
abbrev mX2_addLine : Mt := (yX2_addLine, prog_4_method_14_code, 6, none)
abbrev yX2_removeLine : MethodName := ⟨RX2, "removeLine", "(II)V"⟩
abbrev mX2_removeLine : Mt := (yX2_removeLine, prog_4_method_15_code, 4, none)
abbrev yX2_swapWithNext : MethodName := ⟨RX2, "swapWithNext", "(II)V"⟩
abbrev mX2_swapWithNext : Mt := (yX2_swapWithNext, prog_4_method_16_code, 5, none)
abbrev yX2_becomeLike : MethodName := ⟨RX2, "becomeLike", "(LKeptInside$Methods;)V"⟩
abbrev mX2_becomeLike : Mt := (yX2_becomeLike, prog_4_method_17_code, 2, none)
abbrev yX2_code : MethodName := ⟨RX2, "code", "(II)I"⟩
abbrev mX2_code : Mt := (yX2_code, prog_4_method_18_code, 3, (some .int))
abbrev yX3_init : MethodName := ⟨RX3, "<init>", "(LKeptInside$Text;LKeptInside$Methods;)V"⟩
abbrev mX3_init : Mt := (yX3_init, prog_5_method_1_code, 3, none)
abbrev yX3_readAll : MethodName := ⟨RX3, "readAll", "()I"⟩
abbrev mX3_readAll : Mt := (yX3_readAll, prog_5_method_2_code, 2, (some .int))
abbrev yX3_firstMissingCall : MethodName := ⟨RX3, "firstMissingCall", "()I"⟩
abbrev mX3_firstMissingCall : Mt := (yX3_firstMissingCall, prog_5_method_3_code, 3, (some .int))
abbrev yX3_readMethod : MethodName := ⟨RX3, "readMethod", "(I)V"⟩
abbrev mX3_readMethod : Mt := (yX3_readMethod, prog_5_method_4_code, 3, none)
abbrev yX3_readLine : MethodName := ⟨RX3, "readLine", "(I)V"⟩
abbrev mX3_readLine : Mt := (yX3_readLine, prog_5_method_5_code, 2, none)
abbrev yX3_readPut : MethodName := ⟨RX3, "readPut", "()V"⟩
abbrev mX3_readPut : Mt := (yX3_readPut, prog_5_method_6_code, 1, none)
abbrev yX3_readValue : MethodName := ⟨RX3, "readValue", "(I)V"⟩
abbrev mX3_readValue : Mt := (yX3_readValue, prog_5_method_7_code, 3, none)
abbrev yX3_noteCall : MethodName := ⟨RX3, "noteCall", "()V"⟩
abbrev mX3_noteCall : Mt := (yX3_noteCall, prog_5_method_8_code, 1, none)
abbrev yX3_take : MethodName := ⟨RX3, "take", "(I)V"⟩
abbrev mX3_take : Mt := (yX3_take, prog_5_method_9_code, 2, none)
abbrev yX3_refuse : MethodName := ⟨RX3, "refuse", "()V"⟩
abbrev mX3_refuse : Mt := (yX3_refuse, prog_5_method_10_code, 1, none)
abbrev yX3_takeName : MethodName := ⟨RX3, "takeName", "()I"⟩
abbrev mX3_takeName : Mt := (yX3_takeName, prog_5_method_11_code, 2, (some .int))
abbrev yX3_nameOf : MethodName := ⟨RX3, "nameOf", "(I)I"⟩
abbrev mX3_nameOf : Mt := (yX3_nameOf, prog_5_method_12_code, 1, (some .int))
abbrev yX4_init : MethodName := ⟨RX4, "<init>", "()V"⟩
abbrev mX4_init : Mt := (yX4_init, prog_6_method_1_code, 1, none)
abbrev yX4_count : MethodName := ⟨RX4, "count", "()I"⟩
abbrev mX4_count : Mt := (yX4_count, prog_6_method_2_code, 1, (some .int))
abbrev yX4_methodOf : MethodName := ⟨RX4, "methodOf", "(I)I"⟩
abbrev mX4_methodOf : Mt := (yX4_methodOf, prog_6_method_3_code, 2, (some .int))
abbrev yX4_lineOf : MethodName := ⟨RX4, "lineOf", "(I)I"⟩
abbrev mX4_lineOf : Mt := (yX4_lineOf, prog_6_method_4_code, 2, (some .int))
abbrev yX4_inMethod : MethodName := ⟨RX4, "inMethod", "(I)I"⟩
abbrev mX4_inMethod : Mt := (yX4_inMethod, prog_6_method_5_code, 2, (some .int))
abbrev yX4_ofLine : MethodName := ⟨RX4, "ofLine", "(II)I"⟩
abbrev mX4_ofLine : Mt := (yX4_ofLine, prog_6_method_6_code, 3, (some .int))
abbrev yX4_number : MethodName := ⟨RX4, "number", "(LKeptInside$Methods;)V"⟩
abbrev mX4_number : Mt := (yX4_number, prog_6_method_7_code, 4, none)
abbrev yX4_add : MethodName := ⟨RX4, "add", "(II)V"⟩
abbrev mX4_add : Mt := (yX4_add, prog_6_method_8_code, 3, none)
abbrev yX5_init : MethodName := ⟨RX5, "<init>", "()V"⟩
abbrev mX5_init : Mt := (yX5_init, prog_7_method_1_code, 2, none)
abbrev yX5_count : MethodName := ⟨RX5, "count", "()I"⟩
abbrev mX5_count : Mt := (yX5_count, prog_7_method_2_code, 1, (some .int))
abbrev yX5_keep : MethodName := ⟨RX5, "keep", "(LKeptInside$Methods;)V"⟩
abbrev mX5_keep : Mt := (yX5_keep, prog_7_method_3_code, 2, none)
abbrev yX5_giveBack : MethodName := ⟨RX5, "giveBack", "(LKeptInside$Methods;)V"⟩
abbrev mX5_giveBack : Mt := (yX5_giveBack, prog_7_method_4_code, 2, none)
abbrev yX5_loseOldest : MethodName := ⟨RX5, "loseOldest", "()V"⟩
abbrev mX5_loseOldest : Mt := (yX5_loseOldest, prog_7_method_5_code, 3, none)
abbrev yX6_init : MethodName := ⟨RX6, "<init>", "()V"⟩
abbrev mX6_init : Mt := (yX6_init, prog_8_method_1_code, 1, none)
abbrev yX6_length : MethodName := ⟨RX6, "length", "()I"⟩
abbrev mX6_length : Mt := (yX6_length, prog_8_method_2_code, 1, (some .int))
abbrev yX6_isFull : MethodName := ⟨RX6, "isFull", "()Z"⟩
abbrev mX6_isFull : Mt := (yX6_isFull, prog_8_method_3_code, 1, (some .boolean))
abbrev yX6_append : MethodName := ⟨RX6, "append", "(I)V"⟩
abbrev mX6_append : Mt := (yX6_append, prog_8_method_4_code, 2, none)
abbrev yX6_empty : MethodName := ⟨RX6, "empty", "()V"⟩
abbrev mX6_empty : Mt := (yX6_empty, prog_8_method_5_code, 1, none)
abbrev yX6_at : MethodName := ⟨RX6, "at", "(I)I"⟩
abbrev mX6_at : Mt := (yX6_at, prog_8_method_6_code, 2, (some .int))
abbrev yX7_init : MethodName := ⟨RX7, "<init>", "()V"⟩
abbrev mX7_init : Mt := (yX7_init, prog_9_method_1_code, 1, none)
abbrev yX7_ahead : MethodName := ⟨RX7, "ahead", "()I"⟩
abbrev mX7_ahead : Mt := (yX7_ahead, prog_9_method_2_code, 1, (some .int))
abbrev yX7_place : MethodName := ⟨RX7, "place", "()I"⟩
abbrev mX7_place : Mt := (yX7_place, prog_9_method_3_code, 1, (some .int))
abbrev yX7_step : MethodName := ⟨RX7, "step", "()V"⟩
abbrev mX7_step : Mt := (yX7_step, prog_9_method_4_code, 1, none)
abbrev yX7_cut : MethodName := ⟨RX7, "cut", "(LKeptInside$Text;)V"⟩
abbrev mX7_cut : Mt := (yX7_cut, prog_9_method_5_code, 4, none)
abbrev yX7_add : MethodName := ⟨RX7, "add", "(II)V"⟩
abbrev mX7_add : Mt := (yX7_add, prog_9_method_6_code, 3, none)
abbrev yX7_lettersFrom : MethodName := ⟨RX7, "lettersFrom", "(LKeptInside$Text;I)I"⟩
abbrev mX7_lettersFrom : Mt := (yX7_lettersFrom, prog_9_method_7_code, 3, (some .int))
abbrev yX7_wordKind : MethodName := ⟨RX7, "wordKind", "(LKeptInside$Text;II)I"⟩
abbrev mX7_wordKind : Mt := (yX7_wordKind, prog_9_method_8_code, 3, (some .int))
abbrev yX7_spells : MethodName := ⟨RX7, "spells", "(LKeptInside$Text;IILjava/lang/String;)Z"⟩
abbrev mX7_spells : Mt := (yX7_spells, prog_9_method_9_code, 6, (some .boolean))
abbrev yX8_init : MethodName := ⟨RX8, "<init>", "(LKeptInside$Methods;LKeptInside$Sites;LKeptInside$Fates;)V"⟩
abbrev mX8_init : Mt := (yX8_init, prog_10_method_1_code, 4, none)
abbrev yX8_failed : MethodName := ⟨RX8, "failed", "()Z"⟩
abbrev mX8_failed : Mt := (yX8_failed, prog_10_method_2_code, 1, (some .boolean))
abbrev yX8_made : MethodName := ⟨RX8, "made", "()I"⟩
abbrev mX8_made : Mt := (yX8_made, prog_10_method_3_code, 1, (some .int))
abbrev yX8_locks : MethodName := ⟨RX8, "locks", "()I"⟩
abbrev mX8_locks : Mt := (yX8_locks, prog_10_method_4_code, 1, (some .int))
abbrev yX8_idleLocks : MethodName := ⟨RX8, "idleLocks", "()I"⟩
abbrev mX8_idleLocks : Mt := (yX8_idleLocks, prog_10_method_5_code, 1, (some .int))
abbrev yX8_calls : MethodName := ⟨RX8, "calls", "()I"⟩
abbrev mX8_calls : Mt := (yX8_calls, prog_10_method_6_code, 1, (some .int))
abbrev yX8_leaks : MethodName := ⟨RX8, "leaks", "()I"⟩
abbrev mX8_leaks : Mt := (yX8_leaks, prog_10_method_7_code, 1, (some .int))
abbrev yX8_madeOf : MethodName := ⟨RX8, "madeOf", "(I)I"⟩
abbrev mX8_madeOf : Mt := (yX8_madeOf, prog_10_method_8_code, 2, (some .int))
abbrev yX8_leaksOf : MethodName := ⟨RX8, "leaksOf", "(I)I"⟩
abbrev mX8_leaksOf : Mt := (yX8_leaksOf, prog_10_method_9_code, 2, (some .int))
abbrev yX8_locksOf : MethodName := ⟨RX8, "locksOf", "(I)I"⟩
abbrev mX8_locksOf : Mt := (yX8_locksOf, prog_10_method_10_code, 2, (some .int))
abbrev yX8_siteInOpenPlace : MethodName := ⟨RX8, "siteInOpenPlace", "()I"⟩
abbrev mX8_siteInOpenPlace : Mt := (yX8_siteInOpenPlace, prog_10_method_11_code, 1, (some .int))
abbrev yX8_start : MethodName := ⟨RX8, "start", "()V"⟩
abbrev mX8_start : Mt := (yX8_start, prog_10_method_12_code, 1, none)
abbrev yX8_callMethod : MethodName := ⟨RX8, "callMethod", "(II)I"⟩
abbrev mX8_callMethod : Mt := (yX8_callMethod, prog_10_method_13_code, 5, (some .int))
abbrev yX8_doLine : MethodName := ⟨RX8, "doLine", "(III)V"⟩
abbrev mX8_doLine : Mt := (yX8_doLine, prog_10_method_14_code, 7, none)
abbrev yX8_callFrom : MethodName := ⟨RX8, "callFrom", "(III)V"⟩
abbrev mX8_callFrom : Mt := (yX8_callFrom, prog_10_method_15_code, 5, none)
abbrev yX8_newThing : MethodName := ⟨RX8, "newThing", "(II)I"⟩
abbrev mX8_newThing : Mt := (yX8_newThing, prog_10_method_16_code, 3, (some .int))
abbrev yX8_makeMoreRoom : MethodName := ⟨RX8, "makeMoreRoom", "()V"⟩
abbrev mX8_makeMoreRoom : Mt := (yX8_makeMoreRoom, prog_10_method_17_code, 2, none)
abbrev yX8_putIntoField : MethodName := ⟨RX8, "putIntoField", "(II)V"⟩
abbrev mX8_putIntoField : Mt := (yX8_putIntoField, prog_10_method_18_code, 3, none)
abbrev yX8_takeFromField : MethodName := ⟨RX8, "takeFromField", "(I)I"⟩
abbrev mX8_takeFromField : Mt := (yX8_takeFromField, prog_10_method_19_code, 2, (some .int))
abbrev yX8_lock : MethodName := ⟨RX8, "lock", "(II)V"⟩
abbrev mX8_lock : Mt := (yX8_lock, prog_10_method_20_code, 3, none)
abbrev yX8_findLeaks : MethodName := ⟨RX8, "findLeaks", "(IIII)V"⟩
abbrev mX8_findLeaks : Mt := (yX8_findLeaks, prog_10_method_21_code, 6, none)
abbrev yX8_followFrom : MethodName := ⟨RX8, "followFrom", "(III)I"⟩
abbrev mX8_followFrom : Mt := (yX8_followFrom, prog_10_method_22_code, 7, (some .int))
abbrev yX8_isThing : MethodName := ⟨RX8, "isThing", "(I)Z"⟩
abbrev mX8_isThing : Mt := (yX8_isThing, prog_10_method_23_code, 2, (some .boolean))
abbrev yX8_inName : MethodName := ⟨RX8, "inName", "(II)I"⟩
abbrev mX8_inName : Mt := (yX8_inName, prog_10_method_24_code, 3, (some .int))
abbrev yX8_setName : MethodName := ⟨RX8, "setName", "(III)V"⟩
abbrev mX8_setName : Mt := (yX8_setName, prog_10_method_25_code, 4, none)
abbrev yX9_init : MethodName := ⟨RX9, "<init>", "()V"⟩
abbrev mX9_init : Mt := (yX9_init, prog_1_method_1_code, 1, none)
abbrev yX9_type : MethodName := ⟨RX9, "type", "(I)I"⟩
abbrev mX9_type : Mt := (yX9_type, prog_1_method_2_code, 2, (some .int))
abbrev yX9_clear : MethodName := ⟨RX9, "clear", "()I"⟩
abbrev mX9_clear : Mt := (yX9_clear, prog_1_method_3_code, 2, (some .int))
abbrev yX9_reads : MethodName := ⟨RX9, "reads", "()I"⟩
abbrev mX9_reads : Mt := (yX9_reads, prog_1_method_4_code, 2, (some .int))
abbrev yX9_drops : MethodName := ⟨RX9, "drops", "(II)I"⟩
abbrev mX9_drops : Mt := (yX9_drops, prog_1_method_5_code, 3, (some .int))
abbrev yX9_swaps : MethodName := ⟨RX9, "swaps", "(II)I"⟩
abbrev mX9_swaps : Mt := (yX9_swaps, prog_1_method_6_code, 3, (some .int))
abbrev yX9_of : MethodName := ⟨RX9, "of", "(II)I"⟩
abbrev mX9_of : Mt := (yX9_of, prog_1_method_7_code, 3, (some .int))
abbrev yX9_line : MethodName := ⟨RX9, "line", "(III)I"⟩
abbrev mX9_line : Mt := (yX9_line, prog_1_method_8_code, 4, (some .int))
abbrev yX9_site : MethodName := ⟨RX9, "site", "(II)I"⟩
abbrev mX9_site : Mt := (yX9_site, prog_1_method_9_code, 3, (some .int))
abbrev yX9_may : MethodName := ⟨RX9, "may", "(II)I"⟩
abbrev mX9_may : Mt := (yX9_may, prog_1_method_10_code, 3, (some .int))
abbrev yX9_open : MethodName := ⟨RX9, "open", "()I"⟩
abbrev mX9_open : Mt := (yX9_open, prog_1_method_11_code, 1, (some .int))
abbrev yX9_reached : MethodName := ⟨RX9, "reached", "(II)I"⟩
abbrev mX9_reached : Mt := (yX9_reached, prog_1_method_12_code, 3, (some .int))
abbrev yX9_fates : MethodName := ⟨RX9, "fates", "(I)I"⟩
abbrev mX9_fates : Mt := (yX9_fates, prog_1_method_13_code, 2, (some .int))
abbrev yX9_run : MethodName := ⟨RX9, "run", "(I)I"⟩
abbrev mX9_run : Mt := (yX9_run, prog_1_method_14_code, 2, (some .int))
abbrev yX9_ran : MethodName := ⟨RX9, "ran", "(II)I"⟩
abbrev mX9_ran : Mt := (yX9_ran, prog_1_method_15_code, 3, (some .int))
abbrev yX9_held : MethodName := ⟨RX9, "held", "()I"⟩
abbrev mX9_held : Mt := (yX9_held, prog_1_method_16_code, 1, (some .int))
abbrev yX9_back : MethodName := ⟨RX9, "back", "()I"⟩
abbrev mX9_back : Mt := (yX9_back, prog_1_method_17_code, 1, (some .int))
abbrev yX9_told : MethodName := ⟨RX9, "told", "(I)I"⟩
abbrev mX9_told : Mt := (yX9_told, prog_1_method_18_code, 2, (some .int))
abbrev yX9_digest : MethodName := ⟨RX9, "digest", "()J"⟩
abbrev mX9_digest : Mt := (yX9_digest, prog_1_method_19_code, 4, (some .long))
abbrev yX9_digestWithMethod : MethodName := ⟨RX9, "digestWithMethod", "(JI)J"⟩
abbrev mX9_digestWithMethod : Mt := (yX9_digestWithMethod, prog_1_method_20_code, 8, (some .long))
abbrev yX9_digestWithSite : MethodName := ⟨RX9, "digestWithSite", "(JI)J"⟩
abbrev mX9_digestWithSite : Mt := (yX9_digestWithSite, prog_1_method_21_code, 7, (some .long))
abbrev yX9_ofMethod : MethodName := ⟨RX9, "ofMethod", "(II)I"⟩
abbrev mX9_ofMethod : Mt := (yX9_ofMethod, prog_1_method_22_code, 3, (some .int))
abbrev yX9_ofLine : MethodName := ⟨RX9, "ofLine", "(III)I"⟩
abbrev mX9_ofLine : Mt := (yX9_ofLine, prog_1_method_23_code, 4, (some .int))
abbrev yX9_ofSite : MethodName := ⟨RX9, "ofSite", "(II)I"⟩
abbrev mX9_ofSite : Mt := (yX9_ofSite, prog_1_method_24_code, 3, (some .int))
abbrev yX9_ofRun : MethodName := ⟨RX9, "ofRun", "(I)I"⟩
abbrev mX9_ofRun : Mt := (yX9_ofRun, prog_1_method_25_code, 2, (some .int))
abbrev yX9_ofSiteRun : MethodName := ⟨RX9, "ofSiteRun", "(II)I"⟩
abbrev mX9_ofSiteRun : Mt := (yX9_ofSiteRun, prog_1_method_26_code, 3, (some .int))
abbrev yX9_ofAll : MethodName := ⟨RX9, "ofAll", "(I)I"⟩
abbrev mX9_ofAll : Mt := (yX9_ofAll, prog_1_method_27_code, 2, (some .int))
abbrev yX9_refusedAsBad : MethodName := ⟨RX9, "refusedAsBad", "()I"⟩
abbrev mX9_refusedAsBad : Mt := (yX9_refusedAsBad, prog_1_method_28_code, 1, (some .int))
abbrev yX9_refusedAsNo : MethodName := ⟨RX9, "refusedAsNo", "()I"⟩
abbrev mX9_refusedAsNo : Mt := (yX9_refusedAsNo, prog_1_method_29_code, 1, (some .int))
abbrev yX9_refusedAsFull : MethodName := ⟨RX9, "refusedAsFull", "()I"⟩
abbrev mX9_refusedAsFull : Mt := (yX9_refusedAsFull, prog_1_method_30_code, 1, (some .int))
abbrev yX9_isOutside : MethodName := ⟨RX9, "isOutside", "(II)Z"⟩
abbrev mX9_isOutside : Mt := (yX9_isOutside, prog_1_method_31_code, 2, (some .boolean))
abbrev yX9_leaveState : MethodName := ⟨RX9, "leaveState", "()V"⟩
abbrev mX9_leaveState : Mt := (yX9_leaveState, prog_1_method_32_code, 1, none)
abbrev yX9_forgetFindings : MethodName := ⟨RX9, "forgetFindings", "()V"⟩
abbrev mX9_forgetFindings : Mt := (yX9_forgetFindings, prog_1_method_33_code, 1, none)
abbrev yX9_findMays : MethodName := ⟨RX9, "findMays", "()V"⟩
abbrev mX9_findMays : Mt := (yX9_findMays, prog_1_method_34_code, 1, none)
abbrev yX9_findRun : MethodName := ⟨RX9, "findRun", "()V"⟩
abbrev mX9_findRun : Mt := (yX9_findRun, prog_1_method_35_code, 1, none)
abbrev yX10_init : MethodName := ⟨RX10, "<init>", "()V"⟩
abbrev mX10_init : Mt := (yX10_init, prog_12_method_1_code, 1, none)
abbrev yX10_in : MethodName := ⟨RX10, "in", "(III)Z"⟩
abbrev mX10_in : Mt := (yX10_in, prog_12_method_2_code, 3, (some .boolean))
abbrev yX10_bring : MethodName := ⟨RX10, "bring", "([II[II)V"⟩
abbrev mX10_bring : Mt := (yX10_bring, prog_12_method_3_code, 5, none)
abbrev yX10_refuse : MethodName := ⟨RX10, "refuse", "(I)I"⟩
abbrev mX10_refuse : Mt := (yX10_refuse, prog_12_method_4_code, 2, (some .int))
abbrev yX10_note : MethodName := ⟨RX10, "note", "()V"⟩
abbrev mX10_note : Mt := (yX10_note, prog_12_method_5_code, 2, none)
abbrev yX10_isWordByte : MethodName := ⟨RX10, "isWordByte", "()Z"⟩
abbrev mX10_isWordByte : Mt := (yX10_isWordByte, prog_12_method_6_code, 1, (some .boolean))
abbrev yX10_isWord : MethodName := ⟨RX10, "isWord", "(IIII)Z"⟩
abbrev mX10_isWord : Mt := (yX10_isWord, prog_12_method_7_code, 7, (some .boolean))
abbrev yX10_next : MethodName := ⟨RX10, "next", "()V"⟩
abbrev mX10_next : Mt := (yX10_next, prog_12_method_8_code, 1, none)
abbrev yX10_isNext : MethodName := ⟨RX10, "isNext", "(I)Z"⟩
abbrev mX10_isNext : Mt := (yX10_isNext, prog_12_method_9_code, 2, (some .boolean))
abbrev yX10_nameOf : MethodName := ⟨RX10, "nameOf", "(I)I"⟩
abbrev mX10_nameOf : Mt := (yX10_nameOf, prog_12_method_10_code, 1, (some .int))
abbrev yX10_nextName : MethodName := ⟨RX10, "nextName", "()I"⟩
abbrev mX10_nextName : Mt := (yX10_nextName, prog_12_method_11_code, 1, (some .int))
abbrev yX10_readRight : MethodName := ⟨RX10, "readRight", "(I)Z"⟩
abbrev mX10_readRight : Mt := (yX10_readRight, prog_12_method_12_code, 2, (some .boolean))
abbrev yX10_readLine : MethodName := ⟨RX10, "readLine", "(I)Z"⟩
abbrev mX10_readLine : Mt := (yX10_readLine, prog_12_method_13_code, 2, (some .boolean))
abbrev yX10_readMethod : MethodName := ⟨RX10, "readMethod", "()Z"⟩
abbrev mX10_readMethod : Mt := (yX10_readMethod, prog_12_method_14_code, 3, (some .boolean))
abbrev yX10_readText : MethodName := ⟨RX10, "readText", "()I"⟩
abbrev mX10_readText : Mt := (yX10_readText, prog_12_method_15_code, 2, (some .int))
abbrev yX10_type : MethodName := ⟨RX10, "type", "(I)I"⟩
abbrev mX10_type : Mt := (yX10_type, prog_12_method_16_code, 2, (some .int))
abbrev yX10_clear : MethodName := ⟨RX10, "clear", "()I"⟩
abbrev mX10_clear : Mt := (yX10_clear, prog_12_method_17_code, 2, (some .int))
abbrev yX10_reads : MethodName := ⟨RX10, "reads", "()I"⟩
abbrev mX10_reads : Mt := (yX10_reads, prog_12_method_18_code, 2, (some .int))
abbrev yX10_linesOf : MethodName := ⟨RX10, "linesOf", "(I)I"⟩
abbrev mX10_linesOf : Mt := (yX10_linesOf, prog_12_method_19_code, 2, (some .int))
abbrev yX10_lineAt : MethodName := ⟨RX10, "lineAt", "(III)I"⟩
abbrev mX10_lineAt : Mt := (yX10_lineAt, prog_12_method_20_code, 4, (some .int))
abbrev yX10_isMethod : MethodName := ⟨RX10, "isMethod", "(I)Z"⟩
abbrev mX10_isMethod : Mt := (yX10_isMethod, prog_12_method_21_code, 2, (some .boolean))
abbrev yX10_isLine : MethodName := ⟨RX10, "isLine", "(II)Z"⟩
abbrev mX10_isLine : Mt := (yX10_isLine, prog_12_method_22_code, 3, (some .boolean))
abbrev yX10_drops : MethodName := ⟨RX10, "drops", "(II)I"⟩
abbrev mX10_drops : Mt := (yX10_drops, prog_12_method_23_code, 5, (some .int))
abbrev yX10_swaps : MethodName := ⟨RX10, "swaps", "(II)I"⟩
abbrev mX10_swaps : Mt := (yX10_swaps, prog_12_method_24_code, 6, (some .int))
abbrev yX10_findSites : MethodName := ⟨RX10, "findSites", "()V"⟩
abbrev mX10_findSites : Mt := (yX10_findSites, prog_12_method_25_code, 3, none)
abbrev yX10_add : MethodName := ⟨RX10, "add", "(II)V"⟩
abbrev mX10_add : Mt := (yX10_add, prog_12_method_26_code, 3, none)
abbrev yX10_has : MethodName := ⟨RX10, "has", "(II)Z"⟩
abbrev mX10_has : Mt := (yX10_has, prog_12_method_27_code, 2, (some .boolean))
abbrev yX10_fields : MethodName := ⟨RX10, "fields", "(I)I"⟩
abbrev mX10_fields : Mt := (yX10_fields, prog_12_method_28_code, 4, (some .int))
abbrev yX10_goThrough : MethodName := ⟨RX10, "goThrough", "(II)V"⟩
abbrev mX10_goThrough : Mt := (yX10_goThrough, prog_12_method_29_code, 7, none)
abbrev yX10_findMays : MethodName := ⟨RX10, "findMays", "()V"⟩
abbrev mX10_findMays : Mt := (yX10_findMays, prog_12_method_30_code, 3, none)
abbrev yX10_reachedFrom : MethodName := ⟨RX10, "reachedFrom", "(I)I"⟩
abbrev mX10_reachedFrom : Mt := (yX10_reachedFrom, prog_12_method_31_code, 4, (some .int))
abbrev yX10_fateOf : MethodName := ⟨RX10, "fateOf", "(I)I"⟩
abbrev mX10_fateOf : Mt := (yX10_fateOf, prog_12_method_32_code, 3, (some .int))
abbrev yX10_fated : MethodName := ⟨RX10, "fated", "(I)I"⟩
abbrev mX10_fated : Mt := (yX10_fated, prog_12_method_33_code, 4, (some .int))
abbrev yX10_idleOf : MethodName := ⟨RX10, "idleOf", "(I)I"⟩
abbrev mX10_idleOf : Mt := (yX10_idleOf, prog_12_method_34_code, 6, (some .int))
abbrev yX10_ones : MethodName := ⟨RX10, "ones", "(I)I"⟩
abbrev mX10_ones : Mt := (yX10_ones, prog_12_method_35_code, 3, (some .int))
abbrev yX10_ofMethod : MethodName := ⟨RX10, "ofMethod", "(II)I"⟩
abbrev mX10_ofMethod : Mt := (yX10_ofMethod, prog_12_method_36_code, 6, (some .int))
abbrev yX10_of : MethodName := ⟨RX10, "of", "(II)I"⟩
abbrev mX10_of : Mt := (yX10_of, prog_12_method_37_code, 3, (some .int))
abbrev yX10_ofLine : MethodName := ⟨RX10, "ofLine", "(III)I"⟩
abbrev mX10_ofLine : Mt := (yX10_ofLine, prog_12_method_38_code, 6, (some .int))
abbrev yX10_line : MethodName := ⟨RX10, "line", "(III)I"⟩
abbrev mX10_line : Mt := (yX10_line, prog_12_method_39_code, 4, (some .int))
abbrev yX10_ofSite : MethodName := ⟨RX10, "ofSite", "(II)I"⟩
abbrev mX10_ofSite : Mt := (yX10_ofSite, prog_12_method_40_code, 3, (some .int))
abbrev yX10_site : MethodName := ⟨RX10, "site", "(II)I"⟩
abbrev mX10_site : Mt := (yX10_site, prog_12_method_41_code, 3, (some .int))
abbrev yX10_may : MethodName := ⟨RX10, "may", "(II)I"⟩
abbrev mX10_may : Mt := (yX10_may, prog_12_method_42_code, 3, (some .int))
abbrev yX10_open : MethodName := ⟨RX10, "open", "()I"⟩
abbrev mX10_open : Mt := (yX10_open, prog_12_method_43_code, 1, (some .int))
abbrev yX10_reached : MethodName := ⟨RX10, "reached", "(II)I"⟩
abbrev mX10_reached : Mt := (yX10_reached, prog_12_method_44_code, 3, (some .int))
abbrev yX10_fates : MethodName := ⟨RX10, "fates", "(I)I"⟩
abbrev mX10_fates : Mt := (yX10_fates, prog_12_method_45_code, 2, (some .int))
abbrev yX10_call : MethodName := ⟨RX10, "call", "(II)V"⟩
abbrev mX10_call : Mt := (yX10_call, prog_12_method_46_code, 4, none)
abbrev yX10_follow : MethodName := ⟨RX10, "follow", "(II)V"⟩
abbrev mX10_follow : Mt := (yX10_follow, prog_12_method_47_code, 4, none)
abbrev yX10_end : MethodName := ⟨RX10, "end", "()V"⟩
abbrev mX10_end : Mt := (yX10_end, prog_12_method_48_code, 5, none)
abbrev yX10_make : MethodName := ⟨RX10, "make", "(I)I"⟩
abbrev mX10_make : Mt := (yX10_make, prog_12_method_49_code, 2, (some .int))
abbrev yX10_lock : MethodName := ⟨RX10, "lock", "(III)V"⟩
abbrev mX10_lock : Mt := (yX10_lock, prog_12_method_50_code, 4, none)
abbrev yX10_step : MethodName := ⟨RX10, "step", "()V"⟩
abbrev mX10_step : Mt := (yX10_step, prog_12_method_51_code, 7, none)
abbrev yX10_goRun : MethodName := ⟨RX10, "goRun", "()V"⟩
abbrev mX10_goRun : Mt := (yX10_goRun, prog_12_method_52_code, 2, none)
abbrev yX10_ofRun : MethodName := ⟨RX10, "ofRun", "(I)I"⟩
abbrev mX10_ofRun : Mt := (yX10_ofRun, prog_12_method_53_code, 2, (some .int))
abbrev yX10_run : MethodName := ⟨RX10, "run", "(I)I"⟩
abbrev mX10_run : Mt := (yX10_run, prog_12_method_54_code, 2, (some .int))
abbrev yX10_ranOf : MethodName := ⟨RX10, "ranOf", "(II)I"⟩
abbrev mX10_ranOf : Mt := (yX10_ranOf, prog_12_method_55_code, 3, (some .int))
abbrev yX10_ran : MethodName := ⟨RX10, "ran", "(II)I"⟩
abbrev mX10_ran : Mt := (yX10_ran, prog_12_method_56_code, 3, (some .int))
abbrev yX10_heldNow : MethodName := ⟨RX10, "heldNow", "()I"⟩
abbrev mX10_heldNow : Mt := (yX10_heldNow, prog_12_method_57_code, 1, (some .int))
abbrev yX10_held : MethodName := ⟨RX10, "held", "()I"⟩
abbrev mX10_held : Mt := (yX10_held, prog_12_method_58_code, 1, (some .int))
abbrev yX10_back : MethodName := ⟨RX10, "back", "()I"⟩
abbrev mX10_back : Mt := (yX10_back, prog_12_method_59_code, 1, (some .int))
abbrev yX10_toldOf : MethodName := ⟨RX10, "toldOf", "(I)I"⟩
abbrev mX10_toldOf : Mt := (yX10_toldOf, prog_12_method_60_code, 2, (some .int))
abbrev yX10_told : MethodName := ⟨RX10, "told", "(I)I"⟩
abbrev mX10_told : Mt := (yX10_told, prog_12_method_61_code, 2, (some .int))
abbrev yX10_digest : MethodName := ⟨RX10, "digest", "()J"⟩
abbrev mX10_digest : Mt := (yX10_digest, prog_12_method_62_code, 5, (some .long))
abbrev yJ0_length_8abf5 : MethodName := ⟨RJ0, "length", "()I"⟩
abbrev mJ0_length_8abf5 : Mt := (yJ0_length_8abf5, prog_15_method_54_code, 1, (some .int))
abbrev yJ0_charAt_5068e : MethodName := ⟨RJ0, "charAt", "(I)C"⟩
abbrev mJ0_charAt_5068e : Mt := (yJ0_charAt_5068e, prog_15_method_56_code, 2, (some .char))
abbrev yJ0_coder_7d493 : MethodName := ⟨RJ0, "coder", "()B"⟩
abbrev mJ0_coder_7d493 : Mt := (yJ0_coder_7d493, prog_15_method_152_code, 1, (some .byte))
abbrev yJ0_isLatin1_aae02 : MethodName := ⟨RJ0, "isLatin1", "()Z"⟩
abbrev mJ0_isLatin1_aae02 : Mt := (yJ0_isLatin1_aae02, prog_15_method_154_code, 1, (some .boolean))
abbrev yJ0_checkIndex_df160 : MethodName := ⟨RJ0, "checkIndex", "(II)V"⟩
abbrev mJ0_checkIndex_df160 : Mt := (yJ0_checkIndex_df160, prog_15_method_155_code, 2, none)
abbrev yJ1_charAt_3b067 : MethodName := ⟨RJ1, "charAt", "([BI)C"⟩
abbrev mJ1_charAt_3b067 : Mt := (yJ1_charAt_3b067, prog_16_method_2_code, 2, (some .char))
abbrev yJ7_fill_53178 : MethodName := ⟨RJ7, "fill", "([II)V"⟩
abbrev mJ7_fill_53178 : Mt := (yJ7_fill_53178, prog_19_method_103_code, 4, none)
abbrev yJ7_copyOf_59c91 : MethodName := ⟨RJ7, "copyOf", "([II)[I"⟩
abbrev mJ7_copyOf_59c91 : Mt := (yJ7_copyOf_59c91, prog_19_method_123_code, 3, (some (.array .int)))
abbrev yJ3_checkIndex_8e157 : MethodName := ⟨RJ3, "checkIndex", "(IILjava/util/function/BiFunction;)I"⟩
abbrev mJ3_checkIndex_8e157 : Mt := (yJ3_checkIndex_8e157, prog_20_method_11_code, 3, (some .int))
abbrev yL_law : MethodName := x
abbrev mL_law : Mt := (x, code, 4, some .boolean)
/-- a method that can be called: its words, its number of parameters, and its kind: instance or static -/
def MOk (M : Mt) (n : Nat) : Prop := Cond.code M.1 M.2.1 M.2.2.1 M.2.2.2 ∈ gtbl ∧ Cond.initialized M.1.cls ∈ gtbl ∧ (M.1.cls ≠ "java/lang/invoke/MethodHandle" ∧ M.1.cls ≠ "java/lang/invoke/VarHandle" ∧ (parseMethodDescriptor M.1.desc).map (fun d => d.parameters.length) = some n) ∧ plainName M.1.cls = true
def MInst (M : Mt) : Prop := Cond.instanceMethod M.1 ∈ gtbl
def MSel (M : Mt) : Prop := Cond.selects M.1.cls M.1 M.1 ∈ gtbl
def MStat (M : Mt) : Prop := Cond.static M.1 ∈ gtbl
theorem ok_X0_init : MOk mX0_init 3 := ⟨(gw_of (i := 265) (by decide +kernel) (by decide +kernel)), (gw_of (i := 96) (by decide +kernel) (by decide +kernel)), ⟨by decide +kernel, by decide +kernel, by decide +kernel⟩, by decide +kernel⟩
theorem is_X0_init : MInst mX0_init := (gw_of (i := 264) (by decide +kernel) (by decide +kernel))
theorem ok_X0_ofSite : MOk mX0_ofSite 1 := ⟨(gw_of (i := 808) (by decide +kernel) (by decide +kernel)), (gw_of (i := 96) (by decide +kernel) (by decide +kernel)), ⟨by decide +kernel, by decide +kernel, by decide +kernel⟩, by decide +kernel⟩
theorem is_X0_ofSite : MInst mX0_ofSite := (gw_of (i := 806) (by decide +kernel) (by decide +kernel))
theorem se_X0_ofSite : MSel mX0_ofSite := (gw_of (i := 807) (by decide +kernel) (by decide +kernel))
theorem ok_X0_idleLines : MOk mX0_idleLines 1 := ⟨(gw_of (i := 766) (by decide +kernel) (by decide +kernel)), (gw_of (i := 96) (by decide +kernel) (by decide +kernel)), ⟨by decide +kernel, by decide +kernel, by decide +kernel⟩, by decide +kernel⟩
theorem is_X0_idleLines : MInst mX0_idleLines := (gw_of (i := 764) (by decide +kernel) (by decide +kernel))
theorem se_X0_idleLines : MSel mX0_idleLines := (gw_of (i := 765) (by decide +kernel) (by decide +kernel))
theorem ok_X0_countOf : MOk mX0_countOf 1 := ⟨(gw_of (i := 835) (by decide +kernel) (by decide +kernel)), (gw_of (i := 96) (by decide +kernel) (by decide +kernel)), ⟨by decide +kernel, by decide +kernel, by decide +kernel⟩, by decide +kernel⟩
theorem is_X0_countOf : MInst mX0_countOf := (gw_of (i := 833) (by decide +kernel) (by decide +kernel))
theorem se_X0_countOf : MSel mX0_countOf := (gw_of (i := 834) (by decide +kernel) (by decide +kernel))
theorem ok_X0_keptIn : MOk mX0_keptIn 1 := ⟨(gw_of (i := 762) (by decide +kernel) (by decide +kernel)), (gw_of (i := 96) (by decide +kernel) (by decide +kernel)), ⟨by decide +kernel, by decide +kernel, by decide +kernel⟩, by decide +kernel⟩
theorem is_X0_keptIn : MInst mX0_keptIn := (gw_of (i := 760) (by decide +kernel) (by decide +kernel))
theorem se_X0_keptIn : MSel mX0_keptIn := (gw_of (i := 761) (by decide +kernel) (by decide +kernel))
theorem ok_X0_find : MOk mX0_find 0 := ⟨(gw_of (i := 717) (by decide +kernel) (by decide +kernel)), (gw_of (i := 96) (by decide +kernel) (by decide +kernel)), ⟨by decide +kernel, by decide +kernel, by decide +kernel⟩, by decide +kernel⟩
theorem is_X0_find : MInst mX0_find := (gw_of (i := 715) (by decide +kernel) (by decide +kernel))
theorem se_X0_find : MSel mX0_find := (gw_of (i := 716) (by decide +kernel) (by decide +kernel))
theorem ok_X0_giveFates : MOk mX0_giveFates 3 := ⟨(gw_of (i := 731) (by decide +kernel) (by decide +kernel)), (gw_of (i := 96) (by decide +kernel) (by decide +kernel)), ⟨by decide +kernel, by decide +kernel, by decide +kernel⟩, by decide +kernel⟩
theorem is_X0_giveFates : MInst mX0_giveFates := (gw_of (i := 730) (by decide +kernel) (by decide +kernel))
theorem se_X0_giveFates : MSel mX0_giveFates := (gw_of (i := 23) (by decide +kernel) (by decide +kernel))
theorem ok_X0_fateOf : MOk mX0_fateOf 2 := ⟨(gw_of (i := 739) (by decide +kernel) (by decide +kernel)), (gw_of (i := 96) (by decide +kernel) (by decide +kernel)), ⟨by decide +kernel, by decide +kernel, by decide +kernel⟩, by decide +kernel⟩
theorem st_X0_fateOf : MStat mX0_fateOf := (gw_of (i := 738) (by decide +kernel) (by decide +kernel))
theorem ok_X0_allKept : MOk mX0_allKept 0 := ⟨(gw_of (i := 743) (by decide +kernel) (by decide +kernel)), (gw_of (i := 96) (by decide +kernel) (by decide +kernel)), ⟨by decide +kernel, by decide +kernel, by decide +kernel⟩, by decide +kernel⟩
theorem is_X0_allKept : MInst mX0_allKept := (gw_of (i := 742) (by decide +kernel) (by decide +kernel))
theorem se_X0_allKept : MSel mX0_allKept := (gw_of (i := 24) (by decide +kernel) (by decide +kernel))
theorem ok_X0_idleAmong : MOk mX0_idleAmong 2 := ⟨(gw_of (i := 747) (by decide +kernel) (by decide +kernel)), (gw_of (i := 96) (by decide +kernel) (by decide +kernel)), ⟨by decide +kernel, by decide +kernel, by decide +kernel⟩, by decide +kernel⟩
theorem is_X0_idleAmong : MInst mX0_idleAmong := (gw_of (i := 746) (by decide +kernel) (by decide +kernel))
theorem se_X0_idleAmong : MSel mX0_idleAmong := (gw_of (i := 25) (by decide +kernel) (by decide +kernel))
theorem ok_X1_init : MOk mX1_init 2 := ⟨(gw_of (i := 240) (by decide +kernel) (by decide +kernel)), (gw_of (i := 95) (by decide +kernel) (by decide +kernel)), ⟨by decide +kernel, by decide +kernel, by decide +kernel⟩, by decide +kernel⟩
theorem is_X1_init : MInst mX1_init := (gw_of (i := 239) (by decide +kernel) (by decide +kernel))
theorem ok_X1_inName : MOk mX1_inName 2 := ⟨(gw_of (i := 682) (by decide +kernel) (by decide +kernel)), (gw_of (i := 95) (by decide +kernel) (by decide +kernel)), ⟨by decide +kernel, by decide +kernel, by decide +kernel⟩, by decide +kernel⟩
theorem is_X1_inName : MInst mX1_inName := (gw_of (i := 680) (by decide +kernel) (by decide +kernel))
theorem se_X1_inName : MSel mX1_inName := (gw_of (i := 681) (by decide +kernel) (by decide +kernel))
theorem ok_X1_inField : MOk mX1_inField 1 := ⟨(gw_of (i := 812) (by decide +kernel) (by decide +kernel)), (gw_of (i := 95) (by decide +kernel) (by decide +kernel)), ⟨by decide +kernel, by decide +kernel, by decide +kernel⟩, by decide +kernel⟩
theorem is_X1_inField : MInst mX1_inField := (gw_of (i := 810) (by decide +kernel) (by decide +kernel))
theorem se_X1_inField : MSel mX1_inField := (gw_of (i := 811) (by decide +kernel) (by decide +kernel))
theorem ok_X1_inOpenPlace : MOk mX1_inOpenPlace 0 := ⟨(gw_of (i := 721) (by decide +kernel) (by decide +kernel)), (gw_of (i := 95) (by decide +kernel) (by decide +kernel)), ⟨by decide +kernel, by decide +kernel, by decide +kernel⟩, by decide +kernel⟩
theorem is_X1_inOpenPlace : MInst mX1_inOpenPlace := (gw_of (i := 719) (by decide +kernel) (by decide +kernel))
theorem se_X1_inOpenPlace : MSel mX1_inOpenPlace := (gw_of (i := 720) (by decide +kernel) (by decide +kernel))
theorem ok_X1_reachedFrom : MOk mX1_reachedFrom 1 := ⟨(gw_of (i := 725) (by decide +kernel) (by decide +kernel)), (gw_of (i := 95) (by decide +kernel) (by decide +kernel)), ⟨by decide +kernel, by decide +kernel, by decide +kernel⟩, by decide +kernel⟩
theorem is_X1_reachedFrom : MInst mX1_reachedFrom := (gw_of (i := 723) (by decide +kernel) (by decide +kernel))
theorem se_X1_reachedFrom : MSel mX1_reachedFrom := (gw_of (i := 724) (by decide +kernel) (by decide +kernel))
theorem ok_X1_find : MOk mX1_find 0 := ⟨(gw_of (i := 663) (by decide +kernel) (by decide +kernel)), (gw_of (i := 95) (by decide +kernel) (by decide +kernel)), ⟨by decide +kernel, by decide +kernel, by decide +kernel⟩, by decide +kernel⟩
theorem is_X1_find : MInst mX1_find := (gw_of (i := 661) (by decide +kernel) (by decide +kernel))
theorem se_X1_find : MSel mX1_find := (gw_of (i := 662) (by decide +kernel) (by decide +kernel))
theorem ok_X1_addByLine : MOk mX1_addByLine 2 := ⟨(gw_of (i := 670) (by decide +kernel) (by decide +kernel)), (gw_of (i := 95) (by decide +kernel) (by decide +kernel)), ⟨by decide +kernel, by decide +kernel, by decide +kernel⟩, by decide +kernel⟩
theorem is_X1_addByLine : MInst mX1_addByLine := (gw_of (i := 669) (by decide +kernel) (by decide +kernel))
theorem se_X1_addByLine : MSel mX1_addByLine := (gw_of (i := 18) (by decide +kernel) (by decide +kernel))
theorem ok_X1_addToName : MOk mX1_addToName 3 := ⟨(gw_of (i := 693) (by decide +kernel) (by decide +kernel)), (gw_of (i := 95) (by decide +kernel) (by decide +kernel)), ⟨by decide +kernel, by decide +kernel, by decide +kernel⟩, by decide +kernel⟩
theorem is_X1_addToName : MInst mX1_addToName := (gw_of (i := 692) (by decide +kernel) (by decide +kernel))
theorem se_X1_addToName : MSel mX1_addToName := (gw_of (i := 19) (by decide +kernel) (by decide +kernel))
theorem ok_X1_addToOpenPlace : MOk mX1_addToOpenPlace 1 := ⟨(gw_of (i := 709) (by decide +kernel) (by decide +kernel)), (gw_of (i := 95) (by decide +kernel) (by decide +kernel)), ⟨by decide +kernel, by decide +kernel, by decide +kernel⟩, by decide +kernel⟩
theorem is_X1_addToOpenPlace : MInst mX1_addToOpenPlace := (gw_of (i := 708) (by decide +kernel) (by decide +kernel))
theorem se_X1_addToOpenPlace : MSel mX1_addToOpenPlace := (gw_of (i := 22) (by decide +kernel) (by decide +kernel))
theorem ok_X1_addToFields : MOk mX1_addToFields 2 := ⟨(gw_of (i := 697) (by decide +kernel) (by decide +kernel)), (gw_of (i := 95) (by decide +kernel) (by decide +kernel)), ⟨by decide +kernel, by decide +kernel, by decide +kernel⟩, by decide +kernel⟩
theorem is_X1_addToFields : MInst mX1_addToFields := (gw_of (i := 696) (by decide +kernel) (by decide +kernel))
theorem se_X1_addToFields : MSel mX1_addToFields := (gw_of (i := 20) (by decide +kernel) (by decide +kernel))
theorem ok_X1_inFields : MOk mX1_inFields 1 := ⟨(gw_of (i := 705) (by decide +kernel) (by decide +kernel)), (gw_of (i := 95) (by decide +kernel) (by decide +kernel)), ⟨by decide +kernel, by decide +kernel, by decide +kernel⟩, by decide +kernel⟩
theorem is_X1_inFields : MInst mX1_inFields := (gw_of (i := 704) (by decide +kernel) (by decide +kernel))
theorem se_X1_inFields : MSel mX1_inFields := (gw_of (i := 21) (by decide +kernel) (by decide +kernel))
theorem ok_X2_init : MOk mX2_init 0 := ⟨(gw_of (i := 132) (by decide +kernel) (by decide +kernel)), (gw_of (i := 90) (by decide +kernel) (by decide +kernel)), ⟨by decide +kernel, by decide +kernel, by decide +kernel⟩, by decide +kernel⟩
theorem is_X2_init : MInst mX2_init := (gw_of (i := 131) (by decide +kernel) (by decide +kernel))
theorem ok_X2_count : MOk mX2_count 0 := ⟨(gw_of (i := 580) (by decide +kernel) (by decide +kernel)), (gw_of (i := 90) (by decide +kernel) (by decide +kernel)), ⟨by decide +kernel, by decide +kernel, by decide +kernel⟩, by decide +kernel⟩
theorem is_X2_count : MInst mX2_count := (gw_of (i := 578) (by decide +kernel) (by decide +kernel))
theorem se_X2_count : MSel mX2_count := (gw_of (i := 579) (by decide +kernel) (by decide +kernel))
theorem ok_X2_has : MOk mX2_has 1 := ⟨(gw_of (i := 572) (by decide +kernel) (by decide +kernel)), (gw_of (i := 90) (by decide +kernel) (by decide +kernel)), ⟨by decide +kernel, by decide +kernel, by decide +kernel⟩, by decide +kernel⟩
theorem is_X2_has : MInst mX2_has := (gw_of (i := 570) (by decide +kernel) (by decide +kernel))
theorem se_X2_has : MSel mX2_has := (gw_of (i := 571) (by decide +kernel) (by decide +kernel))
theorem ok_X2_lines : MOk mX2_lines 1 := ⟨(gw_of (i := 617) (by decide +kernel) (by decide +kernel)), (gw_of (i := 90) (by decide +kernel) (by decide +kernel)), ⟨by decide +kernel, by decide +kernel, by decide +kernel⟩, by decide +kernel⟩
theorem is_X2_lines : MInst mX2_lines := (gw_of (i := 615) (by decide +kernel) (by decide +kernel))
theorem se_X2_lines : MSel mX2_lines := (gw_of (i := 616) (by decide +kernel) (by decide +kernel))
theorem ok_X2_hasLine : MOk mX2_hasLine 2 := ⟨(gw_of (i := 613) (by decide +kernel) (by decide +kernel)), (gw_of (i := 90) (by decide +kernel) (by decide +kernel)), ⟨by decide +kernel, by decide +kernel, by decide +kernel⟩, by decide +kernel⟩
theorem is_X2_hasLine : MInst mX2_hasLine := (gw_of (i := 611) (by decide +kernel) (by decide +kernel))
theorem se_X2_hasLine : MSel mX2_hasLine := (gw_of (i := 612) (by decide +kernel) (by decide +kernel))
theorem ok_X2_sort : MOk mX2_sort 2 := ⟨(gw_of (i := 651) (by decide +kernel) (by decide +kernel)), (gw_of (i := 90) (by decide +kernel) (by decide +kernel)), ⟨by decide +kernel, by decide +kernel, by decide +kernel⟩, by decide +kernel⟩
theorem is_X2_sort : MInst mX2_sort := (gw_of (i := 649) (by decide +kernel) (by decide +kernel))
theorem se_X2_sort : MSel mX2_sort := (gw_of (i := 650) (by decide +kernel) (by decide +kernel))
theorem ok_X2_name : MOk mX2_name 2 := ⟨(gw_of (i := 674) (by decide +kernel) (by decide +kernel)), (gw_of (i := 90) (by decide +kernel) (by decide +kernel)), ⟨by decide +kernel, by decide +kernel, by decide +kernel⟩, by decide +kernel⟩
theorem is_X2_name : MInst mX2_name := (gw_of (i := 672) (by decide +kernel) (by decide +kernel))
theorem se_X2_name : MSel mX2_name := (gw_of (i := 673) (by decide +kernel) (by decide +kernel))
theorem ok_X2_hasOther : MOk mX2_hasOther 2 := ⟨(gw_of (i := 787) (by decide +kernel) (by decide +kernel)), (gw_of (i := 90) (by decide +kernel) (by decide +kernel)), ⟨by decide +kernel, by decide +kernel, by decide +kernel⟩, by decide +kernel⟩
theorem is_X2_hasOther : MInst mX2_hasOther := (gw_of (i := 785) (by decide +kernel) (by decide +kernel))
theorem se_X2_hasOther : MSel mX2_hasOther := (gw_of (i := 786) (by decide +kernel) (by decide +kernel))
theorem ok_X2_other : MOk mX2_other 2 := ⟨(gw_of (i := 678) (by decide +kernel) (by decide +kernel)), (gw_of (i := 90) (by decide +kernel) (by decide +kernel)), ⟨by decide +kernel, by decide +kernel, by decide +kernel⟩, by decide +kernel⟩
theorem is_X2_other : MInst mX2_other := (gw_of (i := 676) (by decide +kernel) (by decide +kernel))
theorem se_X2_other : MSel mX2_other := (gw_of (i := 677) (by decide +kernel) (by decide +kernel))
theorem ok_X2_callee : MOk mX2_callee 2 := ⟨(gw_of (i := 713) (by decide +kernel) (by decide +kernel)), (gw_of (i := 90) (by decide +kernel) (by decide +kernel)), ⟨by decide +kernel, by decide +kernel, by decide +kernel⟩, by decide +kernel⟩
theorem is_X2_callee : MInst mX2_callee := (gw_of (i := 711) (by decide +kernel) (by decide +kernel))
theorem se_X2_callee : MSel mX2_callee := (gw_of (i := 712) (by decide +kernel) (by decide +kernel))
theorem ok_X2_calledBy : MOk mX2_calledBy 1 := ⟨(gw_of (i := 771) (by decide +kernel) (by decide +kernel)), (gw_of (i := 90) (by decide +kernel) (by decide +kernel)), ⟨by decide +kernel, by decide +kernel, by decide +kernel⟩, by decide +kernel⟩
theorem is_X2_calledBy : MInst mX2_calledBy := (gw_of (i := 769) (by decide +kernel) (by decide +kernel))
theorem se_X2_calledBy : MSel mX2_calledBy := (gw_of (i := 770) (by decide +kernel) (by decide +kernel))
theorem ok_X2_becomeNone : MOk mX2_becomeNone 0 := ⟨(gw_of (i := 509) (by decide +kernel) (by decide +kernel)), (gw_of (i := 90) (by decide +kernel) (by decide +kernel)), ⟨by decide +kernel, by decide +kernel, by decide +kernel⟩, by decide +kernel⟩
theorem is_X2_becomeNone : MInst mX2_becomeNone := (gw_of (i := 507) (by decide +kernel) (by decide +kernel))
theorem se_X2_becomeNone : MSel mX2_becomeNone := (gw_of (i := 508) (by decide +kernel) (by decide +kernel))
theorem ok_X2_addMethod : MOk mX2_addMethod 0 := ⟨(gw_of (i := 524) (by decide +kernel) (by decide +kernel)), (gw_of (i := 90) (by decide +kernel) (by decide +kernel)), ⟨by decide +kernel, by decide +kernel, by decide +kernel⟩, by decide +kernel⟩
theorem is_X2_addMethod : MInst mX2_addMethod := (gw_of (i := 522) (by decide +kernel) (by decide +kernel))
theorem se_X2_addMethod : MSel mX2_addMethod := (gw_of (i := 523) (by decide +kernel) (by decide +kernel))
theorem ok_X2_addLine : MOk mX2_addLine 4 := ⟨(gw_of (i := 568) (by decide +kernel) (by decide +kernel)), (gw_of (i := 90) (by decide +kernel) (by decide +kernel)), ⟨by decide +kernel, by decide +kernel, by decide +kernel⟩, by decide +kernel⟩
theorem is_X2_addLine : MInst mX2_addLine := (gw_of (i := 566) (by decide +kernel) (by decide +kernel))
theorem se_X2_addLine : MSel mX2_addLine := (gw_of (i := 567) (by decide +kernel) (by decide +kernel))
theorem ok_X2_removeLine : MOk mX2_removeLine 2 := ⟨(gw_of (i := 621) (by decide +kernel) (by decide +kernel)), (gw_of (i := 90) (by decide +kernel) (by decide +kernel)), ⟨by decide +kernel, by decide +kernel, by decide +kernel⟩, by decide +kernel⟩
theorem is_X2_removeLine : MInst mX2_removeLine := (gw_of (i := 619) (by decide +kernel) (by decide +kernel))
theorem se_X2_removeLine : MSel mX2_removeLine := (gw_of (i := 620) (by decide +kernel) (by decide +kernel))
theorem ok_X2_swapWithNext : MOk mX2_swapWithNext 2 := ⟨(gw_of (i := 631) (by decide +kernel) (by decide +kernel)), (gw_of (i := 90) (by decide +kernel) (by decide +kernel)), ⟨by decide +kernel, by decide +kernel, by decide +kernel⟩, by decide +kernel⟩
theorem is_X2_swapWithNext : MInst mX2_swapWithNext := (gw_of (i := 629) (by decide +kernel) (by decide +kernel))
theorem se_X2_swapWithNext : MSel mX2_swapWithNext := (gw_of (i := 630) (by decide +kernel) (by decide +kernel))
theorem ok_X2_becomeLike : MOk mX2_becomeLike 1 := ⟨(gw_of (i := 596) (by decide +kernel) (by decide +kernel)), (gw_of (i := 90) (by decide +kernel) (by decide +kernel)), ⟨by decide +kernel, by decide +kernel, by decide +kernel⟩, by decide +kernel⟩
theorem is_X2_becomeLike : MInst mX2_becomeLike := (gw_of (i := 594) (by decide +kernel) (by decide +kernel))
theorem se_X2_becomeLike : MSel mX2_becomeLike := (gw_of (i := 595) (by decide +kernel) (by decide +kernel))
theorem ok_X2_code : MOk mX2_code 2 := ⟨(gw_of (i := 655) (by decide +kernel) (by decide +kernel)), (gw_of (i := 90) (by decide +kernel) (by decide +kernel)), ⟨by decide +kernel, by decide +kernel, by decide +kernel⟩, by decide +kernel⟩
theorem is_X2_code : MInst mX2_code := (gw_of (i := 654) (by decide +kernel) (by decide +kernel))
theorem se_X2_code : MSel mX2_code := (gw_of (i := 16) (by decide +kernel) (by decide +kernel))
theorem ok_X3_init : MOk mX3_init 2 := ⟨(gw_of (i := 149) (by decide +kernel) (by decide +kernel)), (gw_of (i := 91) (by decide +kernel) (by decide +kernel)), ⟨by decide +kernel, by decide +kernel, by decide +kernel⟩, by decide +kernel⟩
theorem is_X3_init : MInst mX3_init := (gw_of (i := 148) (by decide +kernel) (by decide +kernel))
theorem ok_X3_readAll : MOk mX3_readAll 0 := ⟨(gw_of (i := 429) (by decide +kernel) (by decide +kernel)), (gw_of (i := 91) (by decide +kernel) (by decide +kernel)), ⟨by decide +kernel, by decide +kernel, by decide +kernel⟩, by decide +kernel⟩
theorem is_X3_readAll : MInst mX3_readAll := (gw_of (i := 427) (by decide +kernel) (by decide +kernel))
theorem se_X3_readAll : MSel mX3_readAll := (gw_of (i := 428) (by decide +kernel) (by decide +kernel))
theorem ok_X3_firstMissingCall : MOk mX3_firstMissingCall 0 := ⟨(gw_of (i := 576) (by decide +kernel) (by decide +kernel)), (gw_of (i := 91) (by decide +kernel) (by decide +kernel)), ⟨by decide +kernel, by decide +kernel, by decide +kernel⟩, by decide +kernel⟩
theorem is_X3_firstMissingCall : MInst mX3_firstMissingCall := (gw_of (i := 575) (by decide +kernel) (by decide +kernel))
theorem se_X3_firstMissingCall : MSel mX3_firstMissingCall := (gw_of (i := 11) (by decide +kernel) (by decide +kernel))
theorem ok_X3_readMethod : MOk mX3_readMethod 1 := ⟨(gw_of (i := 520) (by decide +kernel) (by decide +kernel)), (gw_of (i := 91) (by decide +kernel) (by decide +kernel)), ⟨by decide +kernel, by decide +kernel, by decide +kernel⟩, by decide +kernel⟩
theorem is_X3_readMethod : MInst mX3_readMethod := (gw_of (i := 519) (by decide +kernel) (by decide +kernel))
theorem se_X3_readMethod : MSel mX3_readMethod := (gw_of (i := 3) (by decide +kernel) (by decide +kernel))
theorem ok_X3_readLine : MOk mX3_readLine 1 := ⟨(gw_of (i := 544) (by decide +kernel) (by decide +kernel)), (gw_of (i := 91) (by decide +kernel) (by decide +kernel)), ⟨by decide +kernel, by decide +kernel, by decide +kernel⟩, by decide +kernel⟩
theorem is_X3_readLine : MInst mX3_readLine := (gw_of (i := 543) (by decide +kernel) (by decide +kernel))
theorem se_X3_readLine : MSel mX3_readLine := (gw_of (i := 6) (by decide +kernel) (by decide +kernel))
theorem ok_X3_readPut : MOk mX3_readPut 0 := ⟨(gw_of (i := 555) (by decide +kernel) (by decide +kernel)), (gw_of (i := 91) (by decide +kernel) (by decide +kernel)), ⟨by decide +kernel, by decide +kernel, by decide +kernel⟩, by decide +kernel⟩
theorem is_X3_readPut : MInst mX3_readPut := (gw_of (i := 554) (by decide +kernel) (by decide +kernel))
theorem se_X3_readPut : MSel mX3_readPut := (gw_of (i := 8) (by decide +kernel) (by decide +kernel))
theorem ok_X3_readValue : MOk mX3_readValue 1 := ⟨(gw_of (i := 559) (by decide +kernel) (by decide +kernel)), (gw_of (i := 91) (by decide +kernel) (by decide +kernel)), ⟨by decide +kernel, by decide +kernel, by decide +kernel⟩, by decide +kernel⟩
theorem is_X3_readValue : MInst mX3_readValue := (gw_of (i := 558) (by decide +kernel) (by decide +kernel))
theorem se_X3_readValue : MSel mX3_readValue := (gw_of (i := 9) (by decide +kernel) (by decide +kernel))
theorem ok_X3_noteCall : MOk mX3_noteCall 0 := ⟨(gw_of (i := 563) (by decide +kernel) (by decide +kernel)), (gw_of (i := 91) (by decide +kernel) (by decide +kernel)), ⟨by decide +kernel, by decide +kernel, by decide +kernel⟩, by decide +kernel⟩
theorem is_X3_noteCall : MInst mX3_noteCall := (gw_of (i := 562) (by decide +kernel) (by decide +kernel))
theorem se_X3_noteCall : MSel mX3_noteCall := (gw_of (i := 10) (by decide +kernel) (by decide +kernel))
theorem ok_X3_take : MOk mX3_take 1 := ⟨(gw_of (i := 528) (by decide +kernel) (by decide +kernel)), (gw_of (i := 91) (by decide +kernel) (by decide +kernel)), ⟨by decide +kernel, by decide +kernel, by decide +kernel⟩, by decide +kernel⟩
theorem is_X3_take : MInst mX3_take := (gw_of (i := 527) (by decide +kernel) (by decide +kernel))
theorem se_X3_take : MSel mX3_take := (gw_of (i := 4) (by decide +kernel) (by decide +kernel))
theorem ok_X3_refuse : MOk mX3_refuse 0 := ⟨(gw_of (i := 536) (by decide +kernel) (by decide +kernel)), (gw_of (i := 91) (by decide +kernel) (by decide +kernel)), ⟨by decide +kernel, by decide +kernel, by decide +kernel⟩, by decide +kernel⟩
theorem is_X3_refuse : MInst mX3_refuse := (gw_of (i := 535) (by decide +kernel) (by decide +kernel))
theorem se_X3_refuse : MSel mX3_refuse := (gw_of (i := 5) (by decide +kernel) (by decide +kernel))
theorem ok_X3_takeName : MOk mX3_takeName 0 := ⟨(gw_of (i := 548) (by decide +kernel) (by decide +kernel)), (gw_of (i := 91) (by decide +kernel) (by decide +kernel)), ⟨by decide +kernel, by decide +kernel, by decide +kernel⟩, by decide +kernel⟩
theorem is_X3_takeName : MInst mX3_takeName := (gw_of (i := 547) (by decide +kernel) (by decide +kernel))
theorem se_X3_takeName : MSel mX3_takeName := (gw_of (i := 7) (by decide +kernel) (by decide +kernel))
theorem ok_X3_nameOf : MOk mX3_nameOf 1 := ⟨(gw_of (i := 551) (by decide +kernel) (by decide +kernel)), (gw_of (i := 91) (by decide +kernel) (by decide +kernel)), ⟨by decide +kernel, by decide +kernel, by decide +kernel⟩, by decide +kernel⟩
theorem st_X3_nameOf : MStat mX3_nameOf := (gw_of (i := 550) (by decide +kernel) (by decide +kernel))
theorem ok_X4_init : MOk mX4_init 0 := ⟨(gw_of (i := 221) (by decide +kernel) (by decide +kernel)), (gw_of (i := 94) (by decide +kernel) (by decide +kernel)), ⟨by decide +kernel, by decide +kernel, by decide +kernel⟩, by decide +kernel⟩
theorem is_X4_init : MInst mX4_init := (gw_of (i := 220) (by decide +kernel) (by decide +kernel))
theorem ok_X4_count : MOk mX4_count 0 := ⟨(gw_of (i := 701) (by decide +kernel) (by decide +kernel)), (gw_of (i := 94) (by decide +kernel) (by decide +kernel)), ⟨by decide +kernel, by decide +kernel, by decide +kernel⟩, by decide +kernel⟩
theorem is_X4_count : MInst mX4_count := (gw_of (i := 699) (by decide +kernel) (by decide +kernel))
theorem se_X4_count : MSel mX4_count := (gw_of (i := 700) (by decide +kernel) (by decide +kernel))
theorem ok_X4_methodOf : MOk mX4_methodOf 1 := ⟨(gw_of (i := 736) (by decide +kernel) (by decide +kernel)), (gw_of (i := 94) (by decide +kernel) (by decide +kernel)), ⟨by decide +kernel, by decide +kernel, by decide +kernel⟩, by decide +kernel⟩
theorem is_X4_methodOf : MInst mX4_methodOf := (gw_of (i := 734) (by decide +kernel) (by decide +kernel))
theorem se_X4_methodOf : MSel mX4_methodOf := (gw_of (i := 735) (by decide +kernel) (by decide +kernel))
theorem ok_X4_lineOf : MOk mX4_lineOf 1 := ⟨(gw_of (i := 804) (by decide +kernel) (by decide +kernel)), (gw_of (i := 94) (by decide +kernel) (by decide +kernel)), ⟨by decide +kernel, by decide +kernel, by decide +kernel⟩, by decide +kernel⟩
theorem is_X4_lineOf : MInst mX4_lineOf := (gw_of (i := 802) (by decide +kernel) (by decide +kernel))
theorem se_X4_lineOf : MSel mX4_lineOf := (gw_of (i := 803) (by decide +kernel) (by decide +kernel))
theorem ok_X4_inMethod : MOk mX4_inMethod 1 := ⟨(gw_of (i := 758) (by decide +kernel) (by decide +kernel)), (gw_of (i := 94) (by decide +kernel) (by decide +kernel)), ⟨by decide +kernel, by decide +kernel, by decide +kernel⟩, by decide +kernel⟩
theorem is_X4_inMethod : MInst mX4_inMethod := (gw_of (i := 756) (by decide +kernel) (by decide +kernel))
theorem se_X4_inMethod : MSel mX4_inMethod := (gw_of (i := 757) (by decide +kernel) (by decide +kernel))
theorem ok_X4_ofLine : MOk mX4_ofLine 2 := ⟨(gw_of (i := 688) (by decide +kernel) (by decide +kernel)), (gw_of (i := 94) (by decide +kernel) (by decide +kernel)), ⟨by decide +kernel, by decide +kernel, by decide +kernel⟩, by decide +kernel⟩
theorem is_X4_ofLine : MInst mX4_ofLine := (gw_of (i := 686) (by decide +kernel) (by decide +kernel))
theorem se_X4_ofLine : MSel mX4_ofLine := (gw_of (i := 687) (by decide +kernel) (by decide +kernel))
theorem ok_X4_number : MOk mX4_number 1 := ⟨(gw_of (i := 644) (by decide +kernel) (by decide +kernel)), (gw_of (i := 94) (by decide +kernel) (by decide +kernel)), ⟨by decide +kernel, by decide +kernel, by decide +kernel⟩, by decide +kernel⟩
theorem is_X4_number : MInst mX4_number := (gw_of (i := 642) (by decide +kernel) (by decide +kernel))
theorem se_X4_number : MSel mX4_number := (gw_of (i := 643) (by decide +kernel) (by decide +kernel))
theorem ok_X4_add : MOk mX4_add 2 := ⟨(gw_of (i := 659) (by decide +kernel) (by decide +kernel)), (gw_of (i := 94) (by decide +kernel) (by decide +kernel)), ⟨by decide +kernel, by decide +kernel, by decide +kernel⟩, by decide +kernel⟩
theorem is_X4_add : MInst mX4_add := (gw_of (i := 658) (by decide +kernel) (by decide +kernel))
theorem se_X4_add : MSel mX4_add := (gw_of (i := 17) (by decide +kernel) (by decide +kernel))
theorem ok_X5_init : MOk mX5_init 0 := ⟨(gw_of (i := 205) (by decide +kernel) (by decide +kernel)), (gw_of (i := 93) (by decide +kernel) (by decide +kernel)), ⟨by decide +kernel, by decide +kernel, by decide +kernel⟩, by decide +kernel⟩
theorem is_X5_init : MInst mX5_init := (gw_of (i := 204) (by decide +kernel) (by decide +kernel))
theorem ok_X5_count : MOk mX5_count 0 := ⟨(gw_of (i := 988) (by decide +kernel) (by decide +kernel)), (gw_of (i := 93) (by decide +kernel) (by decide +kernel)), ⟨by decide +kernel, by decide +kernel, by decide +kernel⟩, by decide +kernel⟩
theorem is_X5_count : MInst mX5_count := (gw_of (i := 986) (by decide +kernel) (by decide +kernel))
theorem se_X5_count : MSel mX5_count := (gw_of (i := 987) (by decide +kernel) (by decide +kernel))
theorem ok_X5_keep : MOk mX5_keep 1 := ⟨(gw_of (i := 588) (by decide +kernel) (by decide +kernel)), (gw_of (i := 93) (by decide +kernel) (by decide +kernel)), ⟨by decide +kernel, by decide +kernel, by decide +kernel⟩, by decide +kernel⟩
theorem is_X5_keep : MInst mX5_keep := (gw_of (i := 586) (by decide +kernel) (by decide +kernel))
theorem se_X5_keep : MSel mX5_keep := (gw_of (i := 587) (by decide +kernel) (by decide +kernel))
theorem ok_X5_giveBack : MOk mX5_giveBack 1 := ⟨(gw_of (i := 996) (by decide +kernel) (by decide +kernel)), (gw_of (i := 93) (by decide +kernel) (by decide +kernel)), ⟨by decide +kernel, by decide +kernel, by decide +kernel⟩, by decide +kernel⟩
theorem is_X5_giveBack : MInst mX5_giveBack := (gw_of (i := 994) (by decide +kernel) (by decide +kernel))
theorem se_X5_giveBack : MSel mX5_giveBack := (gw_of (i := 995) (by decide +kernel) (by decide +kernel))
theorem ok_X5_loseOldest : MOk mX5_loseOldest 0 := ⟨(gw_of (i := 592) (by decide +kernel) (by decide +kernel)), (gw_of (i := 93) (by decide +kernel) (by decide +kernel)), ⟨by decide +kernel, by decide +kernel, by decide +kernel⟩, by decide +kernel⟩
theorem is_X5_loseOldest : MInst mX5_loseOldest := (gw_of (i := 591) (by decide +kernel) (by decide +kernel))
theorem se_X5_loseOldest : MSel mX5_loseOldest := (gw_of (i := 13) (by decide +kernel) (by decide +kernel))
theorem ok_X6_init : MOk mX6_init 0 := ⟨(gw_of (i := 118) (by decide +kernel) (by decide +kernel)), (gw_of (i := 89) (by decide +kernel) (by decide +kernel)), ⟨by decide +kernel, by decide +kernel, by decide +kernel⟩, by decide +kernel⟩
theorem is_X6_init : MInst mX6_init := (gw_of (i := 117) (by decide +kernel) (by decide +kernel))
theorem ok_X6_length : MOk mX6_length 0 := ⟨(gw_of (i := 413) (by decide +kernel) (by decide +kernel)), (gw_of (i := 89) (by decide +kernel) (by decide +kernel)), ⟨by decide +kernel, by decide +kernel, by decide +kernel⟩, by decide +kernel⟩
theorem is_X6_length : MInst mX6_length := (gw_of (i := 411) (by decide +kernel) (by decide +kernel))
theorem se_X6_length : MSel mX6_length := (gw_of (i := 412) (by decide +kernel) (by decide +kernel))
theorem ok_X6_isFull : MOk mX6_isFull 0 := ⟨(gw_of (i := 401) (by decide +kernel) (by decide +kernel)), (gw_of (i := 89) (by decide +kernel) (by decide +kernel)), ⟨by decide +kernel, by decide +kernel, by decide +kernel⟩, by decide +kernel⟩
theorem is_X6_isFull : MInst mX6_isFull := (gw_of (i := 399) (by decide +kernel) (by decide +kernel))
theorem se_X6_isFull : MSel mX6_isFull := (gw_of (i := 400) (by decide +kernel) (by decide +kernel))
theorem ok_X6_append : MOk mX6_append 1 := ⟨(gw_of (i := 409) (by decide +kernel) (by decide +kernel)), (gw_of (i := 89) (by decide +kernel) (by decide +kernel)), ⟨by decide +kernel, by decide +kernel, by decide +kernel⟩, by decide +kernel⟩
theorem is_X6_append : MInst mX6_append := (gw_of (i := 407) (by decide +kernel) (by decide +kernel))
theorem se_X6_append : MSel mX6_append := (gw_of (i := 408) (by decide +kernel) (by decide +kernel))
theorem ok_X6_empty : MOk mX6_empty 0 := ⟨(gw_of (i := 421) (by decide +kernel) (by decide +kernel)), (gw_of (i := 89) (by decide +kernel) (by decide +kernel)), ⟨by decide +kernel, by decide +kernel, by decide +kernel⟩, by decide +kernel⟩
theorem is_X6_empty : MInst mX6_empty := (gw_of (i := 419) (by decide +kernel) (by decide +kernel))
theorem se_X6_empty : MSel mX6_empty := (gw_of (i := 420) (by decide +kernel) (by decide +kernel))
theorem ok_X6_at : MOk mX6_at 1 := ⟨(gw_of (i := 441) (by decide +kernel) (by decide +kernel)), (gw_of (i := 89) (by decide +kernel) (by decide +kernel)), ⟨by decide +kernel, by decide +kernel, by decide +kernel⟩, by decide +kernel⟩
theorem is_X6_at : MInst mX6_at := (gw_of (i := 439) (by decide +kernel) (by decide +kernel))
theorem se_X6_at : MSel mX6_at := (gw_of (i := 440) (by decide +kernel) (by decide +kernel))
theorem ok_X7_init : MOk mX7_init 0 := ⟨(gw_of (i := 155) (by decide +kernel) (by decide +kernel)), (gw_of (i := 92) (by decide +kernel) (by decide +kernel)), ⟨by decide +kernel, by decide +kernel, by decide +kernel⟩, by decide +kernel⟩
theorem is_X7_init : MInst mX7_init := (gw_of (i := 154) (by decide +kernel) (by decide +kernel))
theorem ok_X7_ahead : MOk mX7_ahead 0 := ⟨(gw_of (i := 516) (by decide +kernel) (by decide +kernel)), (gw_of (i := 92) (by decide +kernel) (by decide +kernel)), ⟨by decide +kernel, by decide +kernel, by decide +kernel⟩, by decide +kernel⟩
theorem is_X7_ahead : MInst mX7_ahead := (gw_of (i := 514) (by decide +kernel) (by decide +kernel))
theorem se_X7_ahead : MSel mX7_ahead := (gw_of (i := 515) (by decide +kernel) (by decide +kernel))
theorem ok_X7_place : MOk mX7_place 0 := ⟨(gw_of (i := 540) (by decide +kernel) (by decide +kernel)), (gw_of (i := 92) (by decide +kernel) (by decide +kernel)), ⟨by decide +kernel, by decide +kernel, by decide +kernel⟩, by decide +kernel⟩
theorem is_X7_place : MInst mX7_place := (gw_of (i := 538) (by decide +kernel) (by decide +kernel))
theorem se_X7_place : MSel mX7_place := (gw_of (i := 539) (by decide +kernel) (by decide +kernel))
theorem ok_X7_step : MOk mX7_step 0 := ⟨(gw_of (i := 532) (by decide +kernel) (by decide +kernel)), (gw_of (i := 92) (by decide +kernel) (by decide +kernel)), ⟨by decide +kernel, by decide +kernel, by decide +kernel⟩, by decide +kernel⟩
theorem is_X7_step : MInst mX7_step := (gw_of (i := 530) (by decide +kernel) (by decide +kernel))
theorem se_X7_step : MSel mX7_step := (gw_of (i := 531) (by decide +kernel) (by decide +kernel))
theorem ok_X7_cut : MOk mX7_cut 1 := ⟨(gw_of (i := 433) (by decide +kernel) (by decide +kernel)), (gw_of (i := 92) (by decide +kernel) (by decide +kernel)), ⟨by decide +kernel, by decide +kernel, by decide +kernel⟩, by decide +kernel⟩
theorem is_X7_cut : MInst mX7_cut := (gw_of (i := 431) (by decide +kernel) (by decide +kernel))
theorem se_X7_cut : MSel mX7_cut := (gw_of (i := 432) (by decide +kernel) (by decide +kernel))
theorem ok_X7_add : MOk mX7_add 2 := ⟨(gw_of (i := 505) (by decide +kernel) (by decide +kernel)), (gw_of (i := 92) (by decide +kernel) (by decide +kernel)), ⟨by decide +kernel, by decide +kernel, by decide +kernel⟩, by decide +kernel⟩
theorem is_X7_add : MInst mX7_add := (gw_of (i := 504) (by decide +kernel) (by decide +kernel))
theorem se_X7_add : MSel mX7_add := (gw_of (i := 2) (by decide +kernel) (by decide +kernel))
theorem ok_X7_lettersFrom : MOk mX7_lettersFrom 2 := ⟨(gw_of (i := 437) (by decide +kernel) (by decide +kernel)), (gw_of (i := 92) (by decide +kernel) (by decide +kernel)), ⟨by decide +kernel, by decide +kernel, by decide +kernel⟩, by decide +kernel⟩
theorem st_X7_lettersFrom : MStat mX7_lettersFrom := (gw_of (i := 436) (by decide +kernel) (by decide +kernel))
theorem ok_X7_wordKind : MOk mX7_wordKind 3 := ⟨(gw_of (i := 448) (by decide +kernel) (by decide +kernel)), (gw_of (i := 92) (by decide +kernel) (by decide +kernel)), ⟨by decide +kernel, by decide +kernel, by decide +kernel⟩, by decide +kernel⟩
theorem st_X7_wordKind : MStat mX7_wordKind := (gw_of (i := 447) (by decide +kernel) (by decide +kernel))
theorem ok_X7_spells : MOk mX7_spells 4 := ⟨(gw_of (i := 452) (by decide +kernel) (by decide +kernel)), (gw_of (i := 92) (by decide +kernel) (by decide +kernel)), ⟨by decide +kernel, by decide +kernel, by decide +kernel⟩, by decide +kernel⟩
theorem st_X7_spells : MStat mX7_spells := (gw_of (i := 451) (by decide +kernel) (by decide +kernel))
theorem ok_X8_init : MOk mX8_init 3 := ⟨(gw_of (i := 287) (by decide +kernel) (by decide +kernel)), (gw_of (i := 97) (by decide +kernel) (by decide +kernel)), ⟨by decide +kernel, by decide +kernel, by decide +kernel⟩, by decide +kernel⟩
theorem is_X8_init : MInst mX8_init := (gw_of (i := 286) (by decide +kernel) (by decide +kernel))
theorem ok_X8_failed : MOk mX8_failed 0 := ⟨(gw_of (i := 932) (by decide +kernel) (by decide +kernel)), (gw_of (i := 97) (by decide +kernel) (by decide +kernel)), ⟨by decide +kernel, by decide +kernel, by decide +kernel⟩, by decide +kernel⟩
theorem is_X8_failed : MInst mX8_failed := (gw_of (i := 930) (by decide +kernel) (by decide +kernel))
theorem se_X8_failed : MSel mX8_failed := (gw_of (i := 931) (by decide +kernel) (by decide +kernel))
theorem ok_X8_made : MOk mX8_made 0 := ⟨(gw_of (i := 936) (by decide +kernel) (by decide +kernel)), (gw_of (i := 97) (by decide +kernel) (by decide +kernel)), ⟨by decide +kernel, by decide +kernel, by decide +kernel⟩, by decide +kernel⟩
theorem is_X8_made : MInst mX8_made := (gw_of (i := 934) (by decide +kernel) (by decide +kernel))
theorem se_X8_made : MSel mX8_made := (gw_of (i := 935) (by decide +kernel) (by decide +kernel))
theorem ok_X8_locks : MOk mX8_locks 0 := ⟨(gw_of (i := 940) (by decide +kernel) (by decide +kernel)), (gw_of (i := 97) (by decide +kernel) (by decide +kernel)), ⟨by decide +kernel, by decide +kernel, by decide +kernel⟩, by decide +kernel⟩
theorem is_X8_locks : MInst mX8_locks := (gw_of (i := 938) (by decide +kernel) (by decide +kernel))
theorem se_X8_locks : MSel mX8_locks := (gw_of (i := 939) (by decide +kernel) (by decide +kernel))
theorem ok_X8_idleLocks : MOk mX8_idleLocks 0 := ⟨(gw_of (i := 944) (by decide +kernel) (by decide +kernel)), (gw_of (i := 97) (by decide +kernel) (by decide +kernel)), ⟨by decide +kernel, by decide +kernel, by decide +kernel⟩, by decide +kernel⟩
theorem is_X8_idleLocks : MInst mX8_idleLocks := (gw_of (i := 942) (by decide +kernel) (by decide +kernel))
theorem se_X8_idleLocks : MSel mX8_idleLocks := (gw_of (i := 943) (by decide +kernel) (by decide +kernel))
theorem ok_X8_calls : MOk mX8_calls 0 := ⟨(gw_of (i := 948) (by decide +kernel) (by decide +kernel)), (gw_of (i := 97) (by decide +kernel) (by decide +kernel)), ⟨by decide +kernel, by decide +kernel, by decide +kernel⟩, by decide +kernel⟩
theorem is_X8_calls : MInst mX8_calls := (gw_of (i := 946) (by decide +kernel) (by decide +kernel))
theorem se_X8_calls : MSel mX8_calls := (gw_of (i := 947) (by decide +kernel) (by decide +kernel))
theorem ok_X8_leaks : MOk mX8_leaks 0 := ⟨(gw_of (i := 952) (by decide +kernel) (by decide +kernel)), (gw_of (i := 97) (by decide +kernel) (by decide +kernel)), ⟨by decide +kernel, by decide +kernel, by decide +kernel⟩, by decide +kernel⟩
theorem is_X8_leaks : MInst mX8_leaks := (gw_of (i := 950) (by decide +kernel) (by decide +kernel))
theorem se_X8_leaks : MSel mX8_leaks := (gw_of (i := 951) (by decide +kernel) (by decide +kernel))
theorem ok_X8_madeOf : MOk mX8_madeOf 1 := ⟨(gw_of (i := 964) (by decide +kernel) (by decide +kernel)), (gw_of (i := 97) (by decide +kernel) (by decide +kernel)), ⟨by decide +kernel, by decide +kernel, by decide +kernel⟩, by decide +kernel⟩
theorem is_X8_madeOf : MInst mX8_madeOf := (gw_of (i := 962) (by decide +kernel) (by decide +kernel))
theorem se_X8_madeOf : MSel mX8_madeOf := (gw_of (i := 963) (by decide +kernel) (by decide +kernel))
theorem ok_X8_leaksOf : MOk mX8_leaksOf 1 := ⟨(gw_of (i := 968) (by decide +kernel) (by decide +kernel)), (gw_of (i := 97) (by decide +kernel) (by decide +kernel)), ⟨by decide +kernel, by decide +kernel, by decide +kernel⟩, by decide +kernel⟩
theorem is_X8_leaksOf : MInst mX8_leaksOf := (gw_of (i := 966) (by decide +kernel) (by decide +kernel))
theorem se_X8_leaksOf : MSel mX8_leaksOf := (gw_of (i := 967) (by decide +kernel) (by decide +kernel))
theorem ok_X8_locksOf : MOk mX8_locksOf 1 := ⟨(gw_of (i := 972) (by decide +kernel) (by decide +kernel)), (gw_of (i := 97) (by decide +kernel) (by decide +kernel)), ⟨by decide +kernel, by decide +kernel, by decide +kernel⟩, by decide +kernel⟩
theorem is_X8_locksOf : MInst mX8_locksOf := (gw_of (i := 970) (by decide +kernel) (by decide +kernel))
theorem se_X8_locksOf : MSel mX8_locksOf := (gw_of (i := 971) (by decide +kernel) (by decide +kernel))
theorem ok_X8_siteInOpenPlace : MOk mX8_siteInOpenPlace 0 := ⟨(gw_of (i := 980) (by decide +kernel) (by decide +kernel)), (gw_of (i := 97) (by decide +kernel) (by decide +kernel)), ⟨by decide +kernel, by decide +kernel, by decide +kernel⟩, by decide +kernel⟩
theorem is_X8_siteInOpenPlace : MInst mX8_siteInOpenPlace := (gw_of (i := 978) (by decide +kernel) (by decide +kernel))
theorem se_X8_siteInOpenPlace : MSel mX8_siteInOpenPlace := (gw_of (i := 979) (by decide +kernel) (by decide +kernel))
theorem ok_X8_start : MOk mX8_start 0 := ⟨(gw_of (i := 847) (by decide +kernel) (by decide +kernel)), (gw_of (i := 97) (by decide +kernel) (by decide +kernel)), ⟨by decide +kernel, by decide +kernel, by decide +kernel⟩, by decide +kernel⟩
theorem is_X8_start : MInst mX8_start := (gw_of (i := 845) (by decide +kernel) (by decide +kernel))
theorem se_X8_start : MSel mX8_start := (gw_of (i := 846) (by decide +kernel) (by decide +kernel))
theorem ok_X8_callMethod : MOk mX8_callMethod 2 := ⟨(gw_of (i := 853) (by decide +kernel) (by decide +kernel)), (gw_of (i := 97) (by decide +kernel) (by decide +kernel)), ⟨by decide +kernel, by decide +kernel, by decide +kernel⟩, by decide +kernel⟩
theorem is_X8_callMethod : MInst mX8_callMethod := (gw_of (i := 852) (by decide +kernel) (by decide +kernel))
theorem se_X8_callMethod : MSel mX8_callMethod := (gw_of (i := 30) (by decide +kernel) (by decide +kernel))
theorem ok_X8_doLine : MOk mX8_doLine 3 := ⟨(gw_of (i := 863) (by decide +kernel) (by decide +kernel)), (gw_of (i := 97) (by decide +kernel) (by decide +kernel)), ⟨by decide +kernel, by decide +kernel, by decide +kernel⟩, by decide +kernel⟩
theorem is_X8_doLine : MInst mX8_doLine := (gw_of (i := 862) (by decide +kernel) (by decide +kernel))
theorem se_X8_doLine : MSel mX8_doLine := (gw_of (i := 32) (by decide +kernel) (by decide +kernel))
theorem ok_X8_callFrom : MOk mX8_callFrom 3 := ⟨(gw_of (i := 914) (by decide +kernel) (by decide +kernel)), (gw_of (i := 97) (by decide +kernel) (by decide +kernel)), ⟨by decide +kernel, by decide +kernel, by decide +kernel⟩, by decide +kernel⟩
theorem is_X8_callFrom : MInst mX8_callFrom := (gw_of (i := 913) (by decide +kernel) (by decide +kernel))
theorem se_X8_callFrom : MSel mX8_callFrom := (gw_of (i := 40) (by decide +kernel) (by decide +kernel))
theorem ok_X8_newThing : MOk mX8_newThing 2 := ⟨(gw_of (i := 875) (by decide +kernel) (by decide +kernel)), (gw_of (i := 97) (by decide +kernel) (by decide +kernel)), ⟨by decide +kernel, by decide +kernel, by decide +kernel⟩, by decide +kernel⟩
theorem is_X8_newThing : MInst mX8_newThing := (gw_of (i := 874) (by decide +kernel) (by decide +kernel))
theorem se_X8_newThing : MSel mX8_newThing := (gw_of (i := 34) (by decide +kernel) (by decide +kernel))
theorem ok_X8_makeMoreRoom : MOk mX8_makeMoreRoom 0 := ⟨(gw_of (i := 879) (by decide +kernel) (by decide +kernel)), (gw_of (i := 97) (by decide +kernel) (by decide +kernel)), ⟨by decide +kernel, by decide +kernel, by decide +kernel⟩, by decide +kernel⟩
theorem is_X8_makeMoreRoom : MInst mX8_makeMoreRoom := (gw_of (i := 878) (by decide +kernel) (by decide +kernel))
theorem se_X8_makeMoreRoom : MSel mX8_makeMoreRoom := (gw_of (i := 35) (by decide +kernel) (by decide +kernel))
theorem ok_X8_putIntoField : MOk mX8_putIntoField 2 := ⟨(gw_of (i := 897) (by decide +kernel) (by decide +kernel)), (gw_of (i := 97) (by decide +kernel) (by decide +kernel)), ⟨by decide +kernel, by decide +kernel, by decide +kernel⟩, by decide +kernel⟩
theorem is_X8_putIntoField : MInst mX8_putIntoField := (gw_of (i := 896) (by decide +kernel) (by decide +kernel))
theorem se_X8_putIntoField : MSel mX8_putIntoField := (gw_of (i := 36) (by decide +kernel) (by decide +kernel))
theorem ok_X8_takeFromField : MOk mX8_takeFromField 1 := ⟨(gw_of (i := 905) (by decide +kernel) (by decide +kernel)), (gw_of (i := 97) (by decide +kernel) (by decide +kernel)), ⟨by decide +kernel, by decide +kernel, by decide +kernel⟩, by decide +kernel⟩
theorem is_X8_takeFromField : MInst mX8_takeFromField := (gw_of (i := 904) (by decide +kernel) (by decide +kernel))
theorem se_X8_takeFromField : MSel mX8_takeFromField := (gw_of (i := 38) (by decide +kernel) (by decide +kernel))
theorem ok_X8_lock : MOk mX8_lock 2 := ⟨(gw_of (i := 910) (by decide +kernel) (by decide +kernel)), (gw_of (i := 97) (by decide +kernel) (by decide +kernel)), ⟨by decide +kernel, by decide +kernel, by decide +kernel⟩, by decide +kernel⟩
theorem is_X8_lock : MInst mX8_lock := (gw_of (i := 909) (by decide +kernel) (by decide +kernel))
theorem se_X8_lock : MSel mX8_lock := (gw_of (i := 39) (by decide +kernel) (by decide +kernel))
theorem ok_X8_findLeaks : MOk mX8_findLeaks 4 := ⟨(gw_of (i := 919) (by decide +kernel) (by decide +kernel)), (gw_of (i := 97) (by decide +kernel) (by decide +kernel)), ⟨by decide +kernel, by decide +kernel, by decide +kernel⟩, by decide +kernel⟩
theorem is_X8_findLeaks : MInst mX8_findLeaks := (gw_of (i := 918) (by decide +kernel) (by decide +kernel))
theorem se_X8_findLeaks : MSel mX8_findLeaks := (gw_of (i := 41) (by decide +kernel) (by decide +kernel))
theorem ok_X8_followFrom : MOk mX8_followFrom 3 := ⟨(gw_of (i := 924) (by decide +kernel) (by decide +kernel)), (gw_of (i := 97) (by decide +kernel) (by decide +kernel)), ⟨by decide +kernel, by decide +kernel, by decide +kernel⟩, by decide +kernel⟩
theorem is_X8_followFrom : MInst mX8_followFrom := (gw_of (i := 923) (by decide +kernel) (by decide +kernel))
theorem se_X8_followFrom : MSel mX8_followFrom := (gw_of (i := 42) (by decide +kernel) (by decide +kernel))
theorem ok_X8_isThing : MOk mX8_isThing 1 := ⟨(gw_of (i := 901) (by decide +kernel) (by decide +kernel)), (gw_of (i := 97) (by decide +kernel) (by decide +kernel)), ⟨by decide +kernel, by decide +kernel, by decide +kernel⟩, by decide +kernel⟩
theorem is_X8_isThing : MInst mX8_isThing := (gw_of (i := 900) (by decide +kernel) (by decide +kernel))
theorem se_X8_isThing : MSel mX8_isThing := (gw_of (i := 37) (by decide +kernel) (by decide +kernel))
theorem ok_X8_inName : MOk mX8_inName 2 := ⟨(gw_of (i := 868) (by decide +kernel) (by decide +kernel)), (gw_of (i := 97) (by decide +kernel) (by decide +kernel)), ⟨by decide +kernel, by decide +kernel, by decide +kernel⟩, by decide +kernel⟩
theorem is_X8_inName : MInst mX8_inName := (gw_of (i := 867) (by decide +kernel) (by decide +kernel))
theorem se_X8_inName : MSel mX8_inName := (gw_of (i := 33) (by decide +kernel) (by decide +kernel))
theorem ok_X8_setName : MOk mX8_setName 3 := ⟨(gw_of (i := 857) (by decide +kernel) (by decide +kernel)), (gw_of (i := 97) (by decide +kernel) (by decide +kernel)), ⟨by decide +kernel, by decide +kernel, by decide +kernel⟩, by decide +kernel⟩
theorem is_X8_setName : MInst mX8_setName := (gw_of (i := 856) (by decide +kernel) (by decide +kernel))
theorem se_X8_setName : MSel mX8_setName := (gw_of (i := 31) (by decide +kernel) (by decide +kernel))
theorem ok_X9_init : MOk mX9_init 0 := ⟨(gw_of (i := 110) (by decide +kernel) (by decide +kernel)), (gw_of (i := 88) (by decide +kernel) (by decide +kernel)), ⟨by decide +kernel, by decide +kernel, by decide +kernel⟩, by decide +kernel⟩
theorem is_X9_init : MInst mX9_init := (gw_of (i := 109) (by decide +kernel) (by decide +kernel))
theorem ok_X9_type : MOk mX9_type 1 := ⟨(gw_of (i := 390) (by decide +kernel) (by decide +kernel)), (gw_of (i := 88) (by decide +kernel) (by decide +kernel)), ⟨by decide +kernel, by decide +kernel, by decide +kernel⟩, by decide +kernel⟩
theorem is_X9_type : MInst mX9_type := (gw_of (i := 388) (by decide +kernel) (by decide +kernel))
theorem se_X9_type : MSel mX9_type := (gw_of (i := 389) (by decide +kernel) (by decide +kernel))
theorem ok_X9_clear : MOk mX9_clear 0 := ⟨(gw_of (i := 417) (by decide +kernel) (by decide +kernel)), (gw_of (i := 88) (by decide +kernel) (by decide +kernel)), ⟨by decide +kernel, by decide +kernel, by decide +kernel⟩, by decide +kernel⟩
theorem is_X9_clear : MInst mX9_clear := (gw_of (i := 415) (by decide +kernel) (by decide +kernel))
theorem se_X9_clear : MSel mX9_clear := (gw_of (i := 416) (by decide +kernel) (by decide +kernel))
theorem ok_X9_reads : MOk mX9_reads 0 := ⟨(gw_of (i := 425) (by decide +kernel) (by decide +kernel)), (gw_of (i := 88) (by decide +kernel) (by decide +kernel)), ⟨by decide +kernel, by decide +kernel, by decide +kernel⟩, by decide +kernel⟩
theorem is_X9_reads : MInst mX9_reads := (gw_of (i := 423) (by decide +kernel) (by decide +kernel))
theorem se_X9_reads : MSel mX9_reads := (gw_of (i := 424) (by decide +kernel) (by decide +kernel))
theorem ok_X9_drops : MOk mX9_drops 2 := ⟨(gw_of (i := 609) (by decide +kernel) (by decide +kernel)), (gw_of (i := 88) (by decide +kernel) (by decide +kernel)), ⟨by decide +kernel, by decide +kernel, by decide +kernel⟩, by decide +kernel⟩
theorem is_X9_drops : MInst mX9_drops := (gw_of (i := 607) (by decide +kernel) (by decide +kernel))
theorem se_X9_drops : MSel mX9_drops := (gw_of (i := 608) (by decide +kernel) (by decide +kernel))
theorem ok_X9_swaps : MOk mX9_swaps 2 := ⟨(gw_of (i := 627) (by decide +kernel) (by decide +kernel)), (gw_of (i := 88) (by decide +kernel) (by decide +kernel)), ⟨by decide +kernel, by decide +kernel, by decide +kernel⟩, by decide +kernel⟩
theorem is_X9_swaps : MInst mX9_swaps := (gw_of (i := 625) (by decide +kernel) (by decide +kernel))
theorem se_X9_swaps : MSel mX9_swaps := (gw_of (i := 626) (by decide +kernel) (by decide +kernel))
theorem ok_X9_of : MOk mX9_of 2 := ⟨(gw_of (i := 635) (by decide +kernel) (by decide +kernel)), (gw_of (i := 88) (by decide +kernel) (by decide +kernel)), ⟨by decide +kernel, by decide +kernel, by decide +kernel⟩, by decide +kernel⟩
theorem is_X9_of : MInst mX9_of := (gw_of (i := 633) (by decide +kernel) (by decide +kernel))
theorem se_X9_of : MSel mX9_of := (gw_of (i := 634) (by decide +kernel) (by decide +kernel))
theorem ok_X9_line : MOk mX9_line 3 := ⟨(gw_of (i := 777) (by decide +kernel) (by decide +kernel)), (gw_of (i := 88) (by decide +kernel) (by decide +kernel)), ⟨by decide +kernel, by decide +kernel, by decide +kernel⟩, by decide +kernel⟩
theorem is_X9_line : MInst mX9_line := (gw_of (i := 775) (by decide +kernel) (by decide +kernel))
theorem se_X9_line : MSel mX9_line := (gw_of (i := 776) (by decide +kernel) (by decide +kernel))
theorem ok_X9_site : MOk mX9_site 2 := ⟨(gw_of (i := 794) (by decide +kernel) (by decide +kernel)), (gw_of (i := 88) (by decide +kernel) (by decide +kernel)), ⟨by decide +kernel, by decide +kernel, by decide +kernel⟩, by decide +kernel⟩
theorem is_X9_site : MInst mX9_site := (gw_of (i := 792) (by decide +kernel) (by decide +kernel))
theorem se_X9_site : MSel mX9_site := (gw_of (i := 793) (by decide +kernel) (by decide +kernel))
theorem ok_X9_may : MOk mX9_may 2 := ⟨(gw_of (i := 816) (by decide +kernel) (by decide +kernel)), (gw_of (i := 88) (by decide +kernel) (by decide +kernel)), ⟨by decide +kernel, by decide +kernel, by decide +kernel⟩, by decide +kernel⟩
theorem is_X9_may : MInst mX9_may := (gw_of (i := 814) (by decide +kernel) (by decide +kernel))
theorem se_X9_may : MSel mX9_may := (gw_of (i := 815) (by decide +kernel) (by decide +kernel))
theorem ok_X9_open : MOk mX9_open 0 := ⟨(gw_of (i := 821) (by decide +kernel) (by decide +kernel)), (gw_of (i := 88) (by decide +kernel) (by decide +kernel)), ⟨by decide +kernel, by decide +kernel, by decide +kernel⟩, by decide +kernel⟩
theorem is_X9_open : MInst mX9_open := (gw_of (i := 819) (by decide +kernel) (by decide +kernel))
theorem se_X9_open : MSel mX9_open := (gw_of (i := 820) (by decide +kernel) (by decide +kernel))
theorem ok_X9_reached : MOk mX9_reached 2 := ⟨(gw_of (i := 826) (by decide +kernel) (by decide +kernel)), (gw_of (i := 88) (by decide +kernel) (by decide +kernel)), ⟨by decide +kernel, by decide +kernel, by decide +kernel⟩, by decide +kernel⟩
theorem is_X9_reached : MInst mX9_reached := (gw_of (i := 824) (by decide +kernel) (by decide +kernel))
theorem se_X9_reached : MSel mX9_reached := (gw_of (i := 825) (by decide +kernel) (by decide +kernel))
theorem ok_X9_fates : MOk mX9_fates 1 := ⟨(gw_of (i := 831) (by decide +kernel) (by decide +kernel)), (gw_of (i := 88) (by decide +kernel) (by decide +kernel)), ⟨by decide +kernel, by decide +kernel, by decide +kernel⟩, by decide +kernel⟩
theorem is_X9_fates : MInst mX9_fates := (gw_of (i := 829) (by decide +kernel) (by decide +kernel))
theorem se_X9_fates : MSel mX9_fates := (gw_of (i := 830) (by decide +kernel) (by decide +kernel))
theorem ok_X9_run : MOk mX9_run 1 := ⟨(gw_of (i := 839) (by decide +kernel) (by decide +kernel)), (gw_of (i := 88) (by decide +kernel) (by decide +kernel)), ⟨by decide +kernel, by decide +kernel, by decide +kernel⟩, by decide +kernel⟩
theorem is_X9_run : MInst mX9_run := (gw_of (i := 837) (by decide +kernel) (by decide +kernel))
theorem se_X9_run : MSel mX9_run := (gw_of (i := 838) (by decide +kernel) (by decide +kernel))
theorem ok_X9_ran : MOk mX9_ran 2 := ⟨(gw_of (i := 956) (by decide +kernel) (by decide +kernel)), (gw_of (i := 88) (by decide +kernel) (by decide +kernel)), ⟨by decide +kernel, by decide +kernel, by decide +kernel⟩, by decide +kernel⟩
theorem is_X9_ran : MInst mX9_ran := (gw_of (i := 954) (by decide +kernel) (by decide +kernel))
theorem se_X9_ran : MSel mX9_ran := (gw_of (i := 955) (by decide +kernel) (by decide +kernel))
theorem ok_X9_held : MOk mX9_held 0 := ⟨(gw_of (i := 976) (by decide +kernel) (by decide +kernel)), (gw_of (i := 88) (by decide +kernel) (by decide +kernel)), ⟨by decide +kernel, by decide +kernel, by decide +kernel⟩, by decide +kernel⟩
theorem is_X9_held : MInst mX9_held := (gw_of (i := 974) (by decide +kernel) (by decide +kernel))
theorem se_X9_held : MSel mX9_held := (gw_of (i := 975) (by decide +kernel) (by decide +kernel))
theorem ok_X9_back : MOk mX9_back 0 := ⟨(gw_of (i := 984) (by decide +kernel) (by decide +kernel)), (gw_of (i := 88) (by decide +kernel) (by decide +kernel)), ⟨by decide +kernel, by decide +kernel, by decide +kernel⟩, by decide +kernel⟩
theorem is_X9_back : MInst mX9_back := (gw_of (i := 982) (by decide +kernel) (by decide +kernel))
theorem se_X9_back : MSel mX9_back := (gw_of (i := 983) (by decide +kernel) (by decide +kernel))
theorem ok_X9_told : MOk mX9_told 1 := ⟨(gw_of (i := 1000) (by decide +kernel) (by decide +kernel)), (gw_of (i := 88) (by decide +kernel) (by decide +kernel)), ⟨by decide +kernel, by decide +kernel, by decide +kernel⟩, by decide +kernel⟩
theorem is_X9_told : MInst mX9_told := (gw_of (i := 998) (by decide +kernel) (by decide +kernel))
theorem se_X9_told : MSel mX9_told := (gw_of (i := 999) (by decide +kernel) (by decide +kernel))
theorem ok_X9_digest : MOk mX9_digest 0 := ⟨(gw_of (i := 1008) (by decide +kernel) (by decide +kernel)), (gw_of (i := 88) (by decide +kernel) (by decide +kernel)), ⟨by decide +kernel, by decide +kernel, by decide +kernel⟩, by decide +kernel⟩
theorem is_X9_digest : MInst mX9_digest := (gw_of (i := 1006) (by decide +kernel) (by decide +kernel))
theorem se_X9_digest : MSel mX9_digest := (gw_of (i := 1007) (by decide +kernel) (by decide +kernel))
theorem ok_X9_digestWithMethod : MOk mX9_digestWithMethod 2 := ⟨(gw_of (i := 1014) (by decide +kernel) (by decide +kernel)), (gw_of (i := 88) (by decide +kernel) (by decide +kernel)), ⟨by decide +kernel, by decide +kernel, by decide +kernel⟩, by decide +kernel⟩
theorem is_X9_digestWithMethod : MInst mX9_digestWithMethod := (gw_of (i := 1013) (by decide +kernel) (by decide +kernel))
theorem se_X9_digestWithMethod : MSel mX9_digestWithMethod := (gw_of (i := 47) (by decide +kernel) (by decide +kernel))
theorem ok_X9_digestWithSite : MOk mX9_digestWithSite 2 := ⟨(gw_of (i := 1018) (by decide +kernel) (by decide +kernel)), (gw_of (i := 88) (by decide +kernel) (by decide +kernel)), ⟨by decide +kernel, by decide +kernel, by decide +kernel⟩, by decide +kernel⟩
theorem is_X9_digestWithSite : MInst mX9_digestWithSite := (gw_of (i := 1017) (by decide +kernel) (by decide +kernel))
theorem se_X9_digestWithSite : MSel mX9_digestWithSite := (gw_of (i := 48) (by decide +kernel) (by decide +kernel))
theorem ok_X9_ofMethod : MOk mX9_ofMethod 2 := ⟨(gw_of (i := 754) (by decide +kernel) (by decide +kernel)), (gw_of (i := 88) (by decide +kernel) (by decide +kernel)), ⟨by decide +kernel, by decide +kernel, by decide +kernel⟩, by decide +kernel⟩
theorem is_X9_ofMethod : MInst mX9_ofMethod := (gw_of (i := 753) (by decide +kernel) (by decide +kernel))
theorem se_X9_ofMethod : MSel mX9_ofMethod := (gw_of (i := 26) (by decide +kernel) (by decide +kernel))
theorem ok_X9_ofLine : MOk mX9_ofLine 3 := ⟨(gw_of (i := 781) (by decide +kernel) (by decide +kernel)), (gw_of (i := 88) (by decide +kernel) (by decide +kernel)), ⟨by decide +kernel, by decide +kernel, by decide +kernel⟩, by decide +kernel⟩
theorem is_X9_ofLine : MInst mX9_ofLine := (gw_of (i := 780) (by decide +kernel) (by decide +kernel))
theorem se_X9_ofLine : MSel mX9_ofLine := (gw_of (i := 27) (by decide +kernel) (by decide +kernel))
theorem ok_X9_ofSite : MOk mX9_ofSite 2 := ⟨(gw_of (i := 799) (by decide +kernel) (by decide +kernel)), (gw_of (i := 88) (by decide +kernel) (by decide +kernel)), ⟨by decide +kernel, by decide +kernel, by decide +kernel⟩, by decide +kernel⟩
theorem is_X9_ofSite : MInst mX9_ofSite := (gw_of (i := 798) (by decide +kernel) (by decide +kernel))
theorem se_X9_ofSite : MSel mX9_ofSite := (gw_of (i := 28) (by decide +kernel) (by decide +kernel))
theorem ok_X9_ofRun : MOk mX9_ofRun 1 := ⟨(gw_of (i := 928) (by decide +kernel) (by decide +kernel)), (gw_of (i := 88) (by decide +kernel) (by decide +kernel)), ⟨by decide +kernel, by decide +kernel, by decide +kernel⟩, by decide +kernel⟩
theorem is_X9_ofRun : MInst mX9_ofRun := (gw_of (i := 927) (by decide +kernel) (by decide +kernel))
theorem se_X9_ofRun : MSel mX9_ofRun := (gw_of (i := 43) (by decide +kernel) (by decide +kernel))
theorem ok_X9_ofSiteRun : MOk mX9_ofSiteRun 2 := ⟨(gw_of (i := 960) (by decide +kernel) (by decide +kernel)), (gw_of (i := 88) (by decide +kernel) (by decide +kernel)), ⟨by decide +kernel, by decide +kernel, by decide +kernel⟩, by decide +kernel⟩
theorem is_X9_ofSiteRun : MInst mX9_ofSiteRun := (gw_of (i := 959) (by decide +kernel) (by decide +kernel))
theorem se_X9_ofSiteRun : MSel mX9_ofSiteRun := (gw_of (i := 44) (by decide +kernel) (by decide +kernel))
theorem ok_X9_ofAll : MOk mX9_ofAll 1 := ⟨(gw_of (i := 1004) (by decide +kernel) (by decide +kernel)), (gw_of (i := 88) (by decide +kernel) (by decide +kernel)), ⟨by decide +kernel, by decide +kernel, by decide +kernel⟩, by decide +kernel⟩
theorem is_X9_ofAll : MInst mX9_ofAll := (gw_of (i := 1003) (by decide +kernel) (by decide +kernel))
theorem se_X9_ofAll : MSel mX9_ofAll := (gw_of (i := 46) (by decide +kernel) (by decide +kernel))
theorem ok_X9_refusedAsBad : MOk mX9_refusedAsBad 0 := ⟨(gw_of (i := 397) (by decide +kernel) (by decide +kernel)), (gw_of (i := 88) (by decide +kernel) (by decide +kernel)), ⟨by decide +kernel, by decide +kernel, by decide +kernel⟩, by decide +kernel⟩
theorem is_X9_refusedAsBad : MInst mX9_refusedAsBad := (gw_of (i := 396) (by decide +kernel) (by decide +kernel))
theorem se_X9_refusedAsBad : MSel mX9_refusedAsBad := (gw_of (i := 0) (by decide +kernel) (by decide +kernel))
theorem ok_X9_refusedAsNo : MOk mX9_refusedAsNo 0 := ⟨(gw_of (i := 992) (by decide +kernel) (by decide +kernel)), (gw_of (i := 88) (by decide +kernel) (by decide +kernel)), ⟨by decide +kernel, by decide +kernel, by decide +kernel⟩, by decide +kernel⟩
theorem is_X9_refusedAsNo : MInst mX9_refusedAsNo := (gw_of (i := 991) (by decide +kernel) (by decide +kernel))
theorem se_X9_refusedAsNo : MSel mX9_refusedAsNo := (gw_of (i := 45) (by decide +kernel) (by decide +kernel))
theorem ok_X9_refusedAsFull : MOk mX9_refusedAsFull 0 := ⟨(gw_of (i := 405) (by decide +kernel) (by decide +kernel)), (gw_of (i := 88) (by decide +kernel) (by decide +kernel)), ⟨by decide +kernel, by decide +kernel, by decide +kernel⟩, by decide +kernel⟩
theorem is_X9_refusedAsFull : MInst mX9_refusedAsFull := (gw_of (i := 404) (by decide +kernel) (by decide +kernel))
theorem se_X9_refusedAsFull : MSel mX9_refusedAsFull := (gw_of (i := 1) (by decide +kernel) (by decide +kernel))
theorem ok_X9_isOutside : MOk mX9_isOutside 2 := ⟨(gw_of (i := 393) (by decide +kernel) (by decide +kernel)), (gw_of (i := 88) (by decide +kernel) (by decide +kernel)), ⟨by decide +kernel, by decide +kernel, by decide +kernel⟩, by decide +kernel⟩
theorem st_X9_isOutside : MStat mX9_isOutside := (gw_of (i := 392) (by decide +kernel) (by decide +kernel))
theorem ok_X9_leaveState : MOk mX9_leaveState 0 := ⟨(gw_of (i := 584) (by decide +kernel) (by decide +kernel)), (gw_of (i := 88) (by decide +kernel) (by decide +kernel)), ⟨by decide +kernel, by decide +kernel, by decide +kernel⟩, by decide +kernel⟩
theorem is_X9_leaveState : MInst mX9_leaveState := (gw_of (i := 583) (by decide +kernel) (by decide +kernel))
theorem se_X9_leaveState : MSel mX9_leaveState := (gw_of (i := 12) (by decide +kernel) (by decide +kernel))
theorem ok_X9_forgetFindings : MOk mX9_forgetFindings 0 := ⟨(gw_of (i := 603) (by decide +kernel) (by decide +kernel)), (gw_of (i := 88) (by decide +kernel) (by decide +kernel)), ⟨by decide +kernel, by decide +kernel, by decide +kernel⟩, by decide +kernel⟩
theorem is_X9_forgetFindings : MInst mX9_forgetFindings := (gw_of (i := 602) (by decide +kernel) (by decide +kernel))
theorem se_X9_forgetFindings : MSel mX9_forgetFindings := (gw_of (i := 14) (by decide +kernel) (by decide +kernel))
theorem ok_X9_findMays : MOk mX9_findMays 0 := ⟨(gw_of (i := 640) (by decide +kernel) (by decide +kernel)), (gw_of (i := 88) (by decide +kernel) (by decide +kernel)), ⟨by decide +kernel, by decide +kernel, by decide +kernel⟩, by decide +kernel⟩
theorem is_X9_findMays : MInst mX9_findMays := (gw_of (i := 639) (by decide +kernel) (by decide +kernel))
theorem se_X9_findMays : MSel mX9_findMays := (gw_of (i := 15) (by decide +kernel) (by decide +kernel))
theorem ok_X9_findRun : MOk mX9_findRun 0 := ⟨(gw_of (i := 843) (by decide +kernel) (by decide +kernel)), (gw_of (i := 88) (by decide +kernel) (by decide +kernel)), ⟨by decide +kernel, by decide +kernel, by decide +kernel⟩, by decide +kernel⟩
theorem is_X9_findRun : MInst mX9_findRun := (gw_of (i := 842) (by decide +kernel) (by decide +kernel))
theorem se_X9_findRun : MSel mX9_findRun := (gw_of (i := 29) (by decide +kernel) (by decide +kernel))
theorem ok_X10_init : MOk mX10_init 0 := ⟨(gw_of (i := 1023) (by decide +kernel) (by decide +kernel)), (gw_of (i := 98) (by decide +kernel) (by decide +kernel)), ⟨by decide +kernel, by decide +kernel, by decide +kernel⟩, by decide +kernel⟩
theorem is_X10_init : MInst mX10_init := (gw_of (i := 1022) (by decide +kernel) (by decide +kernel))
theorem ok_X10_in : MOk mX10_in 3 := ⟨(gw_of (i := 1167) (by decide +kernel) (by decide +kernel)), (gw_of (i := 98) (by decide +kernel) (by decide +kernel)), ⟨by decide +kernel, by decide +kernel, by decide +kernel⟩, by decide +kernel⟩
theorem st_X10_in : MStat mX10_in := (gw_of (i := 1166) (by decide +kernel) (by decide +kernel))
theorem ok_X10_bring : MOk mX10_bring 4 := ⟨(gw_of (i := 1225) (by decide +kernel) (by decide +kernel)), (gw_of (i := 98) (by decide +kernel) (by decide +kernel)), ⟨by decide +kernel, by decide +kernel, by decide +kernel⟩, by decide +kernel⟩
theorem st_X10_bring : MStat mX10_bring := (gw_of (i := 1224) (by decide +kernel) (by decide +kernel))
theorem ok_X10_refuse : MOk mX10_refuse 1 := ⟨(gw_of (i := 1171) (by decide +kernel) (by decide +kernel)), (gw_of (i := 98) (by decide +kernel) (by decide +kernel)), ⟨by decide +kernel, by decide +kernel, by decide +kernel⟩, by decide +kernel⟩
theorem is_X10_refuse : MInst mX10_refuse := (gw_of (i := 1170) (by decide +kernel) (by decide +kernel))
theorem se_X10_refuse : MSel mX10_refuse := (gw_of (i := 49) (by decide +kernel) (by decide +kernel))
theorem ok_X10_note : MOk mX10_note 0 := ⟨(gw_of (i := 1222) (by decide +kernel) (by decide +kernel)), (gw_of (i := 98) (by decide +kernel) (by decide +kernel)), ⟨by decide +kernel, by decide +kernel, by decide +kernel⟩, by decide +kernel⟩
theorem is_X10_note : MInst mX10_note := (gw_of (i := 1221) (by decide +kernel) (by decide +kernel))
theorem se_X10_note : MSel mX10_note := (gw_of (i := 59) (by decide +kernel) (by decide +kernel))
theorem ok_X10_isWordByte : MOk mX10_isWordByte 0 := ⟨(gw_of (i := 1191) (by decide +kernel) (by decide +kernel)), (gw_of (i := 98) (by decide +kernel) (by decide +kernel)), ⟨by decide +kernel, by decide +kernel, by decide +kernel⟩, by decide +kernel⟩
theorem is_X10_isWordByte : MInst mX10_isWordByte := (gw_of (i := 1190) (by decide +kernel) (by decide +kernel))
theorem se_X10_isWordByte : MSel mX10_isWordByte := (gw_of (i := 52) (by decide +kernel) (by decide +kernel))
theorem ok_X10_isWord : MOk mX10_isWord 4 := ⟨(gw_of (i := 1195) (by decide +kernel) (by decide +kernel)), (gw_of (i := 98) (by decide +kernel) (by decide +kernel)), ⟨by decide +kernel, by decide +kernel, by decide +kernel⟩, by decide +kernel⟩
theorem is_X10_isWord : MInst mX10_isWord := (gw_of (i := 1194) (by decide +kernel) (by decide +kernel))
theorem se_X10_isWord : MSel mX10_isWord := (gw_of (i := 53) (by decide +kernel) (by decide +kernel))
theorem ok_X10_next : MOk mX10_next 0 := ⟨(gw_of (i := 1187) (by decide +kernel) (by decide +kernel)), (gw_of (i := 98) (by decide +kernel) (by decide +kernel)), ⟨by decide +kernel, by decide +kernel, by decide +kernel⟩, by decide +kernel⟩
theorem is_X10_next : MInst mX10_next := (gw_of (i := 1186) (by decide +kernel) (by decide +kernel))
theorem se_X10_next : MSel mX10_next := (gw_of (i := 51) (by decide +kernel) (by decide +kernel))
theorem ok_X10_isNext : MOk mX10_isNext 1 := ⟨(gw_of (i := 1214) (by decide +kernel) (by decide +kernel)), (gw_of (i := 98) (by decide +kernel) (by decide +kernel)), ⟨by decide +kernel, by decide +kernel, by decide +kernel⟩, by decide +kernel⟩
theorem is_X10_isNext : MInst mX10_isNext := (gw_of (i := 1213) (by decide +kernel) (by decide +kernel))
theorem se_X10_isNext : MSel mX10_isNext := (gw_of (i := 57) (by decide +kernel) (by decide +kernel))
theorem ok_X10_nameOf : MOk mX10_nameOf 1 := ⟨(gw_of (i := 1206) (by decide +kernel) (by decide +kernel)), (gw_of (i := 98) (by decide +kernel) (by decide +kernel)), ⟨by decide +kernel, by decide +kernel, by decide +kernel⟩, by decide +kernel⟩
theorem st_X10_nameOf : MStat mX10_nameOf := (gw_of (i := 1205) (by decide +kernel) (by decide +kernel))
theorem ok_X10_nextName : MOk mX10_nextName 0 := ⟨(gw_of (i := 1210) (by decide +kernel) (by decide +kernel)), (gw_of (i := 98) (by decide +kernel) (by decide +kernel)), ⟨by decide +kernel, by decide +kernel, by decide +kernel⟩, by decide +kernel⟩
theorem is_X10_nextName : MInst mX10_nextName := (gw_of (i := 1209) (by decide +kernel) (by decide +kernel))
theorem se_X10_nextName : MSel mX10_nextName := (gw_of (i := 56) (by decide +kernel) (by decide +kernel))
theorem ok_X10_readRight : MOk mX10_readRight 1 := ⟨(gw_of (i := 1218) (by decide +kernel) (by decide +kernel)), (gw_of (i := 98) (by decide +kernel) (by decide +kernel)), ⟨by decide +kernel, by decide +kernel, by decide +kernel⟩, by decide +kernel⟩
theorem is_X10_readRight : MInst mX10_readRight := (gw_of (i := 1217) (by decide +kernel) (by decide +kernel))
theorem se_X10_readRight : MSel mX10_readRight := (gw_of (i := 58) (by decide +kernel) (by decide +kernel))
theorem ok_X10_readLine : MOk mX10_readLine 1 := ⟨(gw_of (i := 1203) (by decide +kernel) (by decide +kernel)), (gw_of (i := 98) (by decide +kernel) (by decide +kernel)), ⟨by decide +kernel, by decide +kernel, by decide +kernel⟩, by decide +kernel⟩
theorem is_X10_readLine : MInst mX10_readLine := (gw_of (i := 1202) (by decide +kernel) (by decide +kernel))
theorem se_X10_readLine : MSel mX10_readLine := (gw_of (i := 55) (by decide +kernel) (by decide +kernel))
theorem ok_X10_readMethod : MOk mX10_readMethod 0 := ⟨(gw_of (i := 1199) (by decide +kernel) (by decide +kernel)), (gw_of (i := 98) (by decide +kernel) (by decide +kernel)), ⟨by decide +kernel, by decide +kernel, by decide +kernel⟩, by decide +kernel⟩
theorem is_X10_readMethod : MInst mX10_readMethod := (gw_of (i := 1198) (by decide +kernel) (by decide +kernel))
theorem se_X10_readMethod : MSel mX10_readMethod := (gw_of (i := 54) (by decide +kernel) (by decide +kernel))
theorem ok_X10_readText : MOk mX10_readText 0 := ⟨(gw_of (i := 1183) (by decide +kernel) (by decide +kernel)), (gw_of (i := 98) (by decide +kernel) (by decide +kernel)), ⟨by decide +kernel, by decide +kernel, by decide +kernel⟩, by decide +kernel⟩
theorem is_X10_readText : MInst mX10_readText := (gw_of (i := 1182) (by decide +kernel) (by decide +kernel))
theorem se_X10_readText : MSel mX10_readText := (gw_of (i := 50) (by decide +kernel) (by decide +kernel))
theorem ok_X10_type : MOk mX10_type 1 := ⟨(gw_of (i := 1164) (by decide +kernel) (by decide +kernel)), (gw_of (i := 98) (by decide +kernel) (by decide +kernel)), ⟨by decide +kernel, by decide +kernel, by decide +kernel⟩, by decide +kernel⟩
theorem is_X10_type : MInst mX10_type := (gw_of (i := 1162) (by decide +kernel) (by decide +kernel))
theorem se_X10_type : MSel mX10_type := (gw_of (i := 1163) (by decide +kernel) (by decide +kernel))
theorem ok_X10_clear : MOk mX10_clear 0 := ⟨(gw_of (i := 1175) (by decide +kernel) (by decide +kernel)), (gw_of (i := 98) (by decide +kernel) (by decide +kernel)), ⟨by decide +kernel, by decide +kernel, by decide +kernel⟩, by decide +kernel⟩
theorem is_X10_clear : MInst mX10_clear := (gw_of (i := 1173) (by decide +kernel) (by decide +kernel))
theorem se_X10_clear : MSel mX10_clear := (gw_of (i := 1174) (by decide +kernel) (by decide +kernel))
theorem ok_X10_reads : MOk mX10_reads 0 := ⟨(gw_of (i := 1179) (by decide +kernel) (by decide +kernel)), (gw_of (i := 98) (by decide +kernel) (by decide +kernel)), ⟨by decide +kernel, by decide +kernel, by decide +kernel⟩, by decide +kernel⟩
theorem is_X10_reads : MInst mX10_reads := (gw_of (i := 1177) (by decide +kernel) (by decide +kernel))
theorem se_X10_reads : MSel mX10_reads := (gw_of (i := 1178) (by decide +kernel) (by decide +kernel))
theorem ok_X10_linesOf : MOk mX10_linesOf 1 := ⟨(gw_of (i := 1241) (by decide +kernel) (by decide +kernel)), (gw_of (i := 98) (by decide +kernel) (by decide +kernel)), ⟨by decide +kernel, by decide +kernel, by decide +kernel⟩, by decide +kernel⟩
theorem is_X10_linesOf : MInst mX10_linesOf := (gw_of (i := 1240) (by decide +kernel) (by decide +kernel))
theorem se_X10_linesOf : MSel mX10_linesOf := (gw_of (i := 62) (by decide +kernel) (by decide +kernel))
theorem ok_X10_lineAt : MOk mX10_lineAt 3 := ⟨(gw_of (i := 1261) (by decide +kernel) (by decide +kernel)), (gw_of (i := 98) (by decide +kernel) (by decide +kernel)), ⟨by decide +kernel, by decide +kernel, by decide +kernel⟩, by decide +kernel⟩
theorem is_X10_lineAt : MInst mX10_lineAt := (gw_of (i := 1260) (by decide +kernel) (by decide +kernel))
theorem se_X10_lineAt : MSel mX10_lineAt := (gw_of (i := 65) (by decide +kernel) (by decide +kernel))
theorem ok_X10_isMethod : MOk mX10_isMethod 1 := ⟨(gw_of (i := 1237) (by decide +kernel) (by decide +kernel)), (gw_of (i := 98) (by decide +kernel) (by decide +kernel)), ⟨by decide +kernel, by decide +kernel, by decide +kernel⟩, by decide +kernel⟩
theorem is_X10_isMethod : MInst mX10_isMethod := (gw_of (i := 1236) (by decide +kernel) (by decide +kernel))
theorem se_X10_isMethod : MSel mX10_isMethod := (gw_of (i := 61) (by decide +kernel) (by decide +kernel))
theorem ok_X10_isLine : MOk mX10_isLine 2 := ⟨(gw_of (i := 1233) (by decide +kernel) (by decide +kernel)), (gw_of (i := 98) (by decide +kernel) (by decide +kernel)), ⟨by decide +kernel, by decide +kernel, by decide +kernel⟩, by decide +kernel⟩
theorem is_X10_isLine : MInst mX10_isLine := (gw_of (i := 1232) (by decide +kernel) (by decide +kernel))
theorem se_X10_isLine : MSel mX10_isLine := (gw_of (i := 60) (by decide +kernel) (by decide +kernel))
theorem ok_X10_drops : MOk mX10_drops 2 := ⟨(gw_of (i := 1229) (by decide +kernel) (by decide +kernel)), (gw_of (i := 98) (by decide +kernel) (by decide +kernel)), ⟨by decide +kernel, by decide +kernel, by decide +kernel⟩, by decide +kernel⟩
theorem is_X10_drops : MInst mX10_drops := (gw_of (i := 1227) (by decide +kernel) (by decide +kernel))
theorem se_X10_drops : MSel mX10_drops := (gw_of (i := 1228) (by decide +kernel) (by decide +kernel))
theorem ok_X10_swaps : MOk mX10_swaps 2 := ⟨(gw_of (i := 1245) (by decide +kernel) (by decide +kernel)), (gw_of (i := 98) (by decide +kernel) (by decide +kernel)), ⟨by decide +kernel, by decide +kernel, by decide +kernel⟩, by decide +kernel⟩
theorem is_X10_swaps : MInst mX10_swaps := (gw_of (i := 1243) (by decide +kernel) (by decide +kernel))
theorem se_X10_swaps : MSel mX10_swaps := (gw_of (i := 1244) (by decide +kernel) (by decide +kernel))
theorem ok_X10_findSites : MOk mX10_findSites 0 := ⟨(gw_of (i := 1257) (by decide +kernel) (by decide +kernel)), (gw_of (i := 98) (by decide +kernel) (by decide +kernel)), ⟨by decide +kernel, by decide +kernel, by decide +kernel⟩, by decide +kernel⟩
theorem is_X10_findSites : MInst mX10_findSites := (gw_of (i := 1256) (by decide +kernel) (by decide +kernel))
theorem se_X10_findSites : MSel mX10_findSites := (gw_of (i := 64) (by decide +kernel) (by decide +kernel))
theorem ok_X10_add : MOk mX10_add 2 := ⟨(gw_of (i := 1269) (by decide +kernel) (by decide +kernel)), (gw_of (i := 98) (by decide +kernel) (by decide +kernel)), ⟨by decide +kernel, by decide +kernel, by decide +kernel⟩, by decide +kernel⟩
theorem is_X10_add : MInst mX10_add := (gw_of (i := 1268) (by decide +kernel) (by decide +kernel))
theorem se_X10_add : MSel mX10_add := (gw_of (i := 67) (by decide +kernel) (by decide +kernel))
theorem ok_X10_has : MOk mX10_has 2 := ⟨(gw_of (i := 1272) (by decide +kernel) (by decide +kernel)), (gw_of (i := 98) (by decide +kernel) (by decide +kernel)), ⟨by decide +kernel, by decide +kernel, by decide +kernel⟩, by decide +kernel⟩
theorem st_X10_has : MStat mX10_has := (gw_of (i := 1271) (by decide +kernel) (by decide +kernel))
theorem ok_X10_fields : MOk mX10_fields 1 := ⟨(gw_of (i := 1276) (by decide +kernel) (by decide +kernel)), (gw_of (i := 98) (by decide +kernel) (by decide +kernel)), ⟨by decide +kernel, by decide +kernel, by decide +kernel⟩, by decide +kernel⟩
theorem is_X10_fields : MInst mX10_fields := (gw_of (i := 1275) (by decide +kernel) (by decide +kernel))
theorem se_X10_fields : MSel mX10_fields := (gw_of (i := 68) (by decide +kernel) (by decide +kernel))
theorem ok_X10_goThrough : MOk mX10_goThrough 2 := ⟨(gw_of (i := 1265) (by decide +kernel) (by decide +kernel)), (gw_of (i := 98) (by decide +kernel) (by decide +kernel)), ⟨by decide +kernel, by decide +kernel, by decide +kernel⟩, by decide +kernel⟩
theorem is_X10_goThrough : MInst mX10_goThrough := (gw_of (i := 1264) (by decide +kernel) (by decide +kernel))
theorem se_X10_goThrough : MSel mX10_goThrough := (gw_of (i := 66) (by decide +kernel) (by decide +kernel))
theorem ok_X10_findMays : MOk mX10_findMays 0 := ⟨(gw_of (i := 1253) (by decide +kernel) (by decide +kernel)), (gw_of (i := 98) (by decide +kernel) (by decide +kernel)), ⟨by decide +kernel, by decide +kernel, by decide +kernel⟩, by decide +kernel⟩
theorem is_X10_findMays : MInst mX10_findMays := (gw_of (i := 1252) (by decide +kernel) (by decide +kernel))
theorem se_X10_findMays : MSel mX10_findMays := (gw_of (i := 63) (by decide +kernel) (by decide +kernel))
theorem ok_X10_reachedFrom : MOk mX10_reachedFrom 1 := ⟨(gw_of (i := 1296) (by decide +kernel) (by decide +kernel)), (gw_of (i := 98) (by decide +kernel) (by decide +kernel)), ⟨by decide +kernel, by decide +kernel, by decide +kernel⟩, by decide +kernel⟩
theorem is_X10_reachedFrom : MInst mX10_reachedFrom := (gw_of (i := 1295) (by decide +kernel) (by decide +kernel))
theorem se_X10_reachedFrom : MSel mX10_reachedFrom := (gw_of (i := 73) (by decide +kernel) (by decide +kernel))
theorem ok_X10_fateOf : MOk mX10_fateOf 1 := ⟨(gw_of (i := 1292) (by decide +kernel) (by decide +kernel)), (gw_of (i := 98) (by decide +kernel) (by decide +kernel)), ⟨by decide +kernel, by decide +kernel, by decide +kernel⟩, by decide +kernel⟩
theorem is_X10_fateOf : MInst mX10_fateOf := (gw_of (i := 1291) (by decide +kernel) (by decide +kernel))
theorem se_X10_fateOf : MSel mX10_fateOf := (gw_of (i := 72) (by decide +kernel) (by decide +kernel))
theorem ok_X10_fated : MOk mX10_fated 1 := ⟨(gw_of (i := 1288) (by decide +kernel) (by decide +kernel)), (gw_of (i := 98) (by decide +kernel) (by decide +kernel)), ⟨by decide +kernel, by decide +kernel, by decide +kernel⟩, by decide +kernel⟩
theorem is_X10_fated : MInst mX10_fated := (gw_of (i := 1287) (by decide +kernel) (by decide +kernel))
theorem se_X10_fated : MSel mX10_fated := (gw_of (i := 71) (by decide +kernel) (by decide +kernel))
theorem ok_X10_idleOf : MOk mX10_idleOf 1 := ⟨(gw_of (i := 1284) (by decide +kernel) (by decide +kernel)), (gw_of (i := 98) (by decide +kernel) (by decide +kernel)), ⟨by decide +kernel, by decide +kernel, by decide +kernel⟩, by decide +kernel⟩
theorem is_X10_idleOf : MInst mX10_idleOf := (gw_of (i := 1283) (by decide +kernel) (by decide +kernel))
theorem se_X10_idleOf : MSel mX10_idleOf := (gw_of (i := 70) (by decide +kernel) (by decide +kernel))
theorem ok_X10_ones : MOk mX10_ones 1 := ⟨(gw_of (i := 1331) (by decide +kernel) (by decide +kernel)), (gw_of (i := 98) (by decide +kernel) (by decide +kernel)), ⟨by decide +kernel, by decide +kernel, by decide +kernel⟩, by decide +kernel⟩
theorem st_X10_ones : MStat mX10_ones := (gw_of (i := 1330) (by decide +kernel) (by decide +kernel))
theorem ok_X10_ofMethod : MOk mX10_ofMethod 2 := ⟨(gw_of (i := 1280) (by decide +kernel) (by decide +kernel)), (gw_of (i := 98) (by decide +kernel) (by decide +kernel)), ⟨by decide +kernel, by decide +kernel, by decide +kernel⟩, by decide +kernel⟩
theorem is_X10_ofMethod : MInst mX10_ofMethod := (gw_of (i := 1279) (by decide +kernel) (by decide +kernel))
theorem se_X10_ofMethod : MSel mX10_ofMethod := (gw_of (i := 69) (by decide +kernel) (by decide +kernel))
theorem ok_X10_of : MOk mX10_of 2 := ⟨(gw_of (i := 1249) (by decide +kernel) (by decide +kernel)), (gw_of (i := 98) (by decide +kernel) (by decide +kernel)), ⟨by decide +kernel, by decide +kernel, by decide +kernel⟩, by decide +kernel⟩
theorem is_X10_of : MInst mX10_of := (gw_of (i := 1247) (by decide +kernel) (by decide +kernel))
theorem se_X10_of : MSel mX10_of := (gw_of (i := 1248) (by decide +kernel) (by decide +kernel))
theorem ok_X10_ofLine : MOk mX10_ofLine 3 := ⟨(gw_of (i := 1304) (by decide +kernel) (by decide +kernel)), (gw_of (i := 98) (by decide +kernel) (by decide +kernel)), ⟨by decide +kernel, by decide +kernel, by decide +kernel⟩, by decide +kernel⟩
theorem is_X10_ofLine : MInst mX10_ofLine := (gw_of (i := 1303) (by decide +kernel) (by decide +kernel))
theorem se_X10_ofLine : MSel mX10_ofLine := (gw_of (i := 74) (by decide +kernel) (by decide +kernel))
theorem ok_X10_line : MOk mX10_line 3 := ⟨(gw_of (i := 1300) (by decide +kernel) (by decide +kernel)), (gw_of (i := 98) (by decide +kernel) (by decide +kernel)), ⟨by decide +kernel, by decide +kernel, by decide +kernel⟩, by decide +kernel⟩
theorem is_X10_line : MInst mX10_line := (gw_of (i := 1298) (by decide +kernel) (by decide +kernel))
theorem se_X10_line : MSel mX10_line := (gw_of (i := 1299) (by decide +kernel) (by decide +kernel))
theorem ok_X10_ofSite : MOk mX10_ofSite 2 := ⟨(gw_of (i := 1312) (by decide +kernel) (by decide +kernel)), (gw_of (i := 98) (by decide +kernel) (by decide +kernel)), ⟨by decide +kernel, by decide +kernel, by decide +kernel⟩, by decide +kernel⟩
theorem is_X10_ofSite : MInst mX10_ofSite := (gw_of (i := 1311) (by decide +kernel) (by decide +kernel))
theorem se_X10_ofSite : MSel mX10_ofSite := (gw_of (i := 75) (by decide +kernel) (by decide +kernel))
theorem ok_X10_site : MOk mX10_site 2 := ⟨(gw_of (i := 1308) (by decide +kernel) (by decide +kernel)), (gw_of (i := 98) (by decide +kernel) (by decide +kernel)), ⟨by decide +kernel, by decide +kernel, by decide +kernel⟩, by decide +kernel⟩
theorem is_X10_site : MInst mX10_site := (gw_of (i := 1306) (by decide +kernel) (by decide +kernel))
theorem se_X10_site : MSel mX10_site := (gw_of (i := 1307) (by decide +kernel) (by decide +kernel))
theorem ok_X10_may : MOk mX10_may 2 := ⟨(gw_of (i := 1316) (by decide +kernel) (by decide +kernel)), (gw_of (i := 98) (by decide +kernel) (by decide +kernel)), ⟨by decide +kernel, by decide +kernel, by decide +kernel⟩, by decide +kernel⟩
theorem is_X10_may : MInst mX10_may := (gw_of (i := 1314) (by decide +kernel) (by decide +kernel))
theorem se_X10_may : MSel mX10_may := (gw_of (i := 1315) (by decide +kernel) (by decide +kernel))
theorem ok_X10_open : MOk mX10_open 0 := ⟨(gw_of (i := 1320) (by decide +kernel) (by decide +kernel)), (gw_of (i := 98) (by decide +kernel) (by decide +kernel)), ⟨by decide +kernel, by decide +kernel, by decide +kernel⟩, by decide +kernel⟩
theorem is_X10_open : MInst mX10_open := (gw_of (i := 1318) (by decide +kernel) (by decide +kernel))
theorem se_X10_open : MSel mX10_open := (gw_of (i := 1319) (by decide +kernel) (by decide +kernel))
theorem ok_X10_reached : MOk mX10_reached 2 := ⟨(gw_of (i := 1324) (by decide +kernel) (by decide +kernel)), (gw_of (i := 98) (by decide +kernel) (by decide +kernel)), ⟨by decide +kernel, by decide +kernel, by decide +kernel⟩, by decide +kernel⟩
theorem is_X10_reached : MInst mX10_reached := (gw_of (i := 1322) (by decide +kernel) (by decide +kernel))
theorem se_X10_reached : MSel mX10_reached := (gw_of (i := 1323) (by decide +kernel) (by decide +kernel))
theorem ok_X10_fates : MOk mX10_fates 1 := ⟨(gw_of (i := 1328) (by decide +kernel) (by decide +kernel)), (gw_of (i := 98) (by decide +kernel) (by decide +kernel)), ⟨by decide +kernel, by decide +kernel, by decide +kernel⟩, by decide +kernel⟩
theorem is_X10_fates : MInst mX10_fates := (gw_of (i := 1326) (by decide +kernel) (by decide +kernel))
theorem se_X10_fates : MSel mX10_fates := (gw_of (i := 1327) (by decide +kernel) (by decide +kernel))
theorem ok_X10_call : MOk mX10_call 2 := ⟨(gw_of (i := 1343) (by decide +kernel) (by decide +kernel)), (gw_of (i := 98) (by decide +kernel) (by decide +kernel)), ⟨by decide +kernel, by decide +kernel, by decide +kernel⟩, by decide +kernel⟩
theorem is_X10_call : MInst mX10_call := (gw_of (i := 1342) (by decide +kernel) (by decide +kernel))
theorem se_X10_call : MSel mX10_call := (gw_of (i := 77) (by decide +kernel) (by decide +kernel))
theorem ok_X10_follow : MOk mX10_follow 2 := ⟨(gw_of (i := 1355) (by decide +kernel) (by decide +kernel)), (gw_of (i := 98) (by decide +kernel) (by decide +kernel)), ⟨by decide +kernel, by decide +kernel, by decide +kernel⟩, by decide +kernel⟩
theorem is_X10_follow : MInst mX10_follow := (gw_of (i := 1354) (by decide +kernel) (by decide +kernel))
theorem se_X10_follow : MSel mX10_follow := (gw_of (i := 80) (by decide +kernel) (by decide +kernel))
theorem ok_X10_end : MOk mX10_end 0 := ⟨(gw_of (i := 1351) (by decide +kernel) (by decide +kernel)), (gw_of (i := 98) (by decide +kernel) (by decide +kernel)), ⟨by decide +kernel, by decide +kernel, by decide +kernel⟩, by decide +kernel⟩
theorem is_X10_end : MInst mX10_end := (gw_of (i := 1350) (by decide +kernel) (by decide +kernel))
theorem se_X10_end : MSel mX10_end := (gw_of (i := 79) (by decide +kernel) (by decide +kernel))
theorem ok_X10_make : MOk mX10_make 1 := ⟨(gw_of (i := 1359) (by decide +kernel) (by decide +kernel)), (gw_of (i := 98) (by decide +kernel) (by decide +kernel)), ⟨by decide +kernel, by decide +kernel, by decide +kernel⟩, by decide +kernel⟩
theorem is_X10_make : MInst mX10_make := (gw_of (i := 1358) (by decide +kernel) (by decide +kernel))
theorem se_X10_make : MSel mX10_make := (gw_of (i := 81) (by decide +kernel) (by decide +kernel))
theorem ok_X10_lock : MOk mX10_lock 3 := ⟨(gw_of (i := 1363) (by decide +kernel) (by decide +kernel)), (gw_of (i := 98) (by decide +kernel) (by decide +kernel)), ⟨by decide +kernel, by decide +kernel, by decide +kernel⟩, by decide +kernel⟩
theorem is_X10_lock : MInst mX10_lock := (gw_of (i := 1362) (by decide +kernel) (by decide +kernel))
theorem se_X10_lock : MSel mX10_lock := (gw_of (i := 82) (by decide +kernel) (by decide +kernel))
theorem ok_X10_step : MOk mX10_step 0 := ⟨(gw_of (i := 1347) (by decide +kernel) (by decide +kernel)), (gw_of (i := 98) (by decide +kernel) (by decide +kernel)), ⟨by decide +kernel, by decide +kernel, by decide +kernel⟩, by decide +kernel⟩
theorem is_X10_step : MInst mX10_step := (gw_of (i := 1346) (by decide +kernel) (by decide +kernel))
theorem se_X10_step : MSel mX10_step := (gw_of (i := 78) (by decide +kernel) (by decide +kernel))
theorem ok_X10_goRun : MOk mX10_goRun 0 := ⟨(gw_of (i := 1339) (by decide +kernel) (by decide +kernel)), (gw_of (i := 98) (by decide +kernel) (by decide +kernel)), ⟨by decide +kernel, by decide +kernel, by decide +kernel⟩, by decide +kernel⟩
theorem is_X10_goRun : MInst mX10_goRun := (gw_of (i := 1338) (by decide +kernel) (by decide +kernel))
theorem se_X10_goRun : MSel mX10_goRun := (gw_of (i := 76) (by decide +kernel) (by decide +kernel))
theorem ok_X10_ofRun : MOk mX10_ofRun 1 := ⟨(gw_of (i := 1367) (by decide +kernel) (by decide +kernel)), (gw_of (i := 98) (by decide +kernel) (by decide +kernel)), ⟨by decide +kernel, by decide +kernel, by decide +kernel⟩, by decide +kernel⟩
theorem is_X10_ofRun : MInst mX10_ofRun := (gw_of (i := 1366) (by decide +kernel) (by decide +kernel))
theorem se_X10_ofRun : MSel mX10_ofRun := (gw_of (i := 83) (by decide +kernel) (by decide +kernel))
theorem ok_X10_run : MOk mX10_run 1 := ⟨(gw_of (i := 1335) (by decide +kernel) (by decide +kernel)), (gw_of (i := 98) (by decide +kernel) (by decide +kernel)), ⟨by decide +kernel, by decide +kernel, by decide +kernel⟩, by decide +kernel⟩
theorem is_X10_run : MInst mX10_run := (gw_of (i := 1333) (by decide +kernel) (by decide +kernel))
theorem se_X10_run : MSel mX10_run := (gw_of (i := 1334) (by decide +kernel) (by decide +kernel))
theorem ok_X10_ranOf : MOk mX10_ranOf 2 := ⟨(gw_of (i := 1375) (by decide +kernel) (by decide +kernel)), (gw_of (i := 98) (by decide +kernel) (by decide +kernel)), ⟨by decide +kernel, by decide +kernel, by decide +kernel⟩, by decide +kernel⟩
theorem is_X10_ranOf : MInst mX10_ranOf := (gw_of (i := 1374) (by decide +kernel) (by decide +kernel))
theorem se_X10_ranOf : MSel mX10_ranOf := (gw_of (i := 84) (by decide +kernel) (by decide +kernel))
theorem ok_X10_ran : MOk mX10_ran 2 := ⟨(gw_of (i := 1371) (by decide +kernel) (by decide +kernel)), (gw_of (i := 98) (by decide +kernel) (by decide +kernel)), ⟨by decide +kernel, by decide +kernel, by decide +kernel⟩, by decide +kernel⟩
theorem is_X10_ran : MInst mX10_ran := (gw_of (i := 1369) (by decide +kernel) (by decide +kernel))
theorem se_X10_ran : MSel mX10_ran := (gw_of (i := 1370) (by decide +kernel) (by decide +kernel))
theorem ok_X10_heldNow : MOk mX10_heldNow 0 := ⟨(gw_of (i := 1383) (by decide +kernel) (by decide +kernel)), (gw_of (i := 98) (by decide +kernel) (by decide +kernel)), ⟨by decide +kernel, by decide +kernel, by decide +kernel⟩, by decide +kernel⟩
theorem is_X10_heldNow : MInst mX10_heldNow := (gw_of (i := 1382) (by decide +kernel) (by decide +kernel))
theorem se_X10_heldNow : MSel mX10_heldNow := (gw_of (i := 85) (by decide +kernel) (by decide +kernel))
theorem ok_X10_held : MOk mX10_held 0 := ⟨(gw_of (i := 1379) (by decide +kernel) (by decide +kernel)), (gw_of (i := 98) (by decide +kernel) (by decide +kernel)), ⟨by decide +kernel, by decide +kernel, by decide +kernel⟩, by decide +kernel⟩
theorem is_X10_held : MInst mX10_held := (gw_of (i := 1377) (by decide +kernel) (by decide +kernel))
theorem se_X10_held : MSel mX10_held := (gw_of (i := 1378) (by decide +kernel) (by decide +kernel))
theorem ok_X10_back : MOk mX10_back 0 := ⟨(gw_of (i := 1387) (by decide +kernel) (by decide +kernel)), (gw_of (i := 98) (by decide +kernel) (by decide +kernel)), ⟨by decide +kernel, by decide +kernel, by decide +kernel⟩, by decide +kernel⟩
theorem is_X10_back : MInst mX10_back := (gw_of (i := 1385) (by decide +kernel) (by decide +kernel))
theorem se_X10_back : MSel mX10_back := (gw_of (i := 1386) (by decide +kernel) (by decide +kernel))
theorem ok_X10_toldOf : MOk mX10_toldOf 1 := ⟨(gw_of (i := 1395) (by decide +kernel) (by decide +kernel)), (gw_of (i := 98) (by decide +kernel) (by decide +kernel)), ⟨by decide +kernel, by decide +kernel, by decide +kernel⟩, by decide +kernel⟩
theorem is_X10_toldOf : MInst mX10_toldOf := (gw_of (i := 1394) (by decide +kernel) (by decide +kernel))
theorem se_X10_toldOf : MSel mX10_toldOf := (gw_of (i := 86) (by decide +kernel) (by decide +kernel))
theorem ok_X10_told : MOk mX10_told 1 := ⟨(gw_of (i := 1391) (by decide +kernel) (by decide +kernel)), (gw_of (i := 98) (by decide +kernel) (by decide +kernel)), ⟨by decide +kernel, by decide +kernel, by decide +kernel⟩, by decide +kernel⟩
theorem is_X10_told : MInst mX10_told := (gw_of (i := 1389) (by decide +kernel) (by decide +kernel))
theorem se_X10_told : MSel mX10_told := (gw_of (i := 1390) (by decide +kernel) (by decide +kernel))
theorem ok_X10_digest : MOk mX10_digest 0 := ⟨(gw_of (i := 1399) (by decide +kernel) (by decide +kernel)), (gw_of (i := 98) (by decide +kernel) (by decide +kernel)), ⟨by decide +kernel, by decide +kernel, by decide +kernel⟩, by decide +kernel⟩
theorem is_X10_digest : MInst mX10_digest := (gw_of (i := 1397) (by decide +kernel) (by decide +kernel))
theorem se_X10_digest : MSel mX10_digest := (gw_of (i := 1398) (by decide +kernel) (by decide +kernel))
theorem ok_J0_length_8abf5 : MOk mJ0_length_8abf5 0 := ⟨(gw_of (i := 456) (by decide +kernel) (by decide +kernel)), (gw_of (i := 100) (by decide +kernel) (by decide +kernel)), ⟨by decide +kernel, by decide +kernel, by decide +kernel⟩, by decide +kernel⟩
theorem is_J0_length_8abf5 : MInst mJ0_length_8abf5 := (gw_of (i := 454) (by decide +kernel) (by decide +kernel))
theorem se_J0_length_8abf5 : MSel mJ0_length_8abf5 := (gw_of (i := 455) (by decide +kernel) (by decide +kernel))
theorem ok_J0_charAt_5068e : MOk mJ0_charAt_5068e 1 := ⟨(gw_of (i := 466) (by decide +kernel) (by decide +kernel)), (gw_of (i := 100) (by decide +kernel) (by decide +kernel)), ⟨by decide +kernel, by decide +kernel, by decide +kernel⟩, by decide +kernel⟩
theorem is_J0_charAt_5068e : MInst mJ0_charAt_5068e := (gw_of (i := 464) (by decide +kernel) (by decide +kernel))
theorem se_J0_charAt_5068e : MSel mJ0_charAt_5068e := (gw_of (i := 465) (by decide +kernel) (by decide +kernel))
theorem ok_J0_coder_7d493 : MOk mJ0_coder_7d493 0 := ⟨(gw_of (i := 460) (by decide +kernel) (by decide +kernel)), (gw_of (i := 100) (by decide +kernel) (by decide +kernel)), ⟨by decide +kernel, by decide +kernel, by decide +kernel⟩, by decide +kernel⟩
theorem is_J0_coder_7d493 : MInst mJ0_coder_7d493 := (gw_of (i := 458) (by decide +kernel) (by decide +kernel))
theorem se_J0_coder_7d493 : MSel mJ0_coder_7d493 := (gw_of (i := 459) (by decide +kernel) (by decide +kernel))
theorem ok_J0_isLatin1_aae02 : MOk mJ0_isLatin1_aae02 0 := ⟨(gw_of (i := 470) (by decide +kernel) (by decide +kernel)), (gw_of (i := 100) (by decide +kernel) (by decide +kernel)), ⟨by decide +kernel, by decide +kernel, by decide +kernel⟩, by decide +kernel⟩
theorem is_J0_isLatin1_aae02 : MInst mJ0_isLatin1_aae02 := (gw_of (i := 468) (by decide +kernel) (by decide +kernel))
theorem se_J0_isLatin1_aae02 : MSel mJ0_isLatin1_aae02 := (gw_of (i := 469) (by decide +kernel) (by decide +kernel))
theorem ok_J0_checkIndex_df160 : MOk mJ0_checkIndex_df160 2 := ⟨(gw_of (i := 476) (by decide +kernel) (by decide +kernel)), (gw_of (i := 100) (by decide +kernel) (by decide +kernel)), ⟨by decide +kernel, by decide +kernel, by decide +kernel⟩, by decide +kernel⟩
theorem st_J0_checkIndex_df160 : MStat mJ0_checkIndex_df160 := (gw_of (i := 475) (by decide +kernel) (by decide +kernel))
theorem ok_J1_charAt_3b067 : MOk mJ1_charAt_3b067 2 := ⟨(gw_of (i := 473) (by decide +kernel) (by decide +kernel)), (gw_of (i := 101) (by decide +kernel) (by decide +kernel)), ⟨by decide +kernel, by decide +kernel, by decide +kernel⟩, by decide +kernel⟩
theorem st_J1_charAt_3b067 : MStat mJ1_charAt_3b067 := (gw_of (i := 472) (by decide +kernel) (by decide +kernel))
theorem ok_J7_fill_53178 : MOk mJ7_fill_53178 2 := ⟨(gw_of (i := 512) (by decide +kernel) (by decide +kernel)), (gw_of (i := 104) (by decide +kernel) (by decide +kernel)), ⟨by decide +kernel, by decide +kernel, by decide +kernel⟩, by decide +kernel⟩
theorem st_J7_fill_53178 : MStat mJ7_fill_53178 := (gw_of (i := 511) (by decide +kernel) (by decide +kernel))
theorem ok_J7_copyOf_59c91 : MOk mJ7_copyOf_59c91 2 := ⟨(gw_of (i := 882) (by decide +kernel) (by decide +kernel)), (gw_of (i := 104) (by decide +kernel) (by decide +kernel)), ⟨by decide +kernel, by decide +kernel, by decide +kernel⟩, by decide +kernel⟩
theorem st_J7_copyOf_59c91 : MStat mJ7_copyOf_59c91 := (gw_of (i := 881) (by decide +kernel) (by decide +kernel))
theorem ok_J3_checkIndex_8e157 : MOk mJ3_checkIndex_8e157 3 := ⟨(gw_of (i := 481) (by decide +kernel) (by decide +kernel)), (gw_of (i := 102) (by decide +kernel) (by decide +kernel)), ⟨by decide +kernel, by decide +kernel, by decide +kernel⟩, by decide +kernel⟩
theorem st_J3_checkIndex_8e157 : MStat mJ3_checkIndex_8e157 := (gw_of (i := 480) (by decide +kernel) (by decide +kernel))
theorem ini_L : Cond.initialized RL ∈ gtbl := (gw_of (i := 87) (by decide +kernel) (by decide +kernel))
theorem ini_X9 : Cond.initialized RX9 ∈ gtbl := (gw_of (i := 88) (by decide +kernel) (by decide +kernel))
theorem ini_X6 : Cond.initialized RX6 ∈ gtbl := (gw_of (i := 89) (by decide +kernel) (by decide +kernel))
theorem ini_X2 : Cond.initialized RX2 ∈ gtbl := (gw_of (i := 90) (by decide +kernel) (by decide +kernel))
theorem ini_X3 : Cond.initialized RX3 ∈ gtbl := (gw_of (i := 91) (by decide +kernel) (by decide +kernel))
theorem ini_X7 : Cond.initialized RX7 ∈ gtbl := (gw_of (i := 92) (by decide +kernel) (by decide +kernel))
theorem ini_X5 : Cond.initialized RX5 ∈ gtbl := (gw_of (i := 93) (by decide +kernel) (by decide +kernel))
theorem ini_X4 : Cond.initialized RX4 ∈ gtbl := (gw_of (i := 94) (by decide +kernel) (by decide +kernel))
theorem ini_X1 : Cond.initialized RX1 ∈ gtbl := (gw_of (i := 95) (by decide +kernel) (by decide +kernel))
theorem ini_X0 : Cond.initialized RX0 ∈ gtbl := (gw_of (i := 96) (by decide +kernel) (by decide +kernel))
theorem ini_X8 : Cond.initialized RX8 ∈ gtbl := (gw_of (i := 97) (by decide +kernel) (by decide +kernel))
theorem ini_X10 : Cond.initialized RX10 ∈ gtbl := (gw_of (i := 98) (by decide +kernel) (by decide +kernel))
theorem ini_J0 : Cond.initialized RJ0 ∈ gtbl := (gw_of (i := 100) (by decide +kernel) (by decide +kernel))
theorem ini_J1 : Cond.initialized RJ1 ∈ gtbl := (gw_of (i := 101) (by decide +kernel) (by decide +kernel))
theorem ini_J3 : Cond.initialized RJ3 ∈ gtbl := (gw_of (i := 102) (by decide +kernel) (by decide +kernel))
theorem ini_J7 : Cond.initialized RJ7 ∈ gtbl := (gw_of (i := 104) (by decide +kernel) (by decide +kernel))
theorem ini_J10 : Cond.initialized RJ10 ∈ gtbl := (gw_of (i := 105) (by decide +kernel) (by decide +kernel))
theorem cl_L_7 : Cond.classLink RL 7 RX9 ∈ gtbl := (gw_of (i := 106) (by decide +kernel) (by decide +kernel))
theorem in_X9 : Cond.instantiable RX9 14 ∈ gtbl := (gw_of (i := 107) (by decide +kernel) (by decide +kernel))
theorem ml_L_9 : Cond.methodLink RL 9 yX9_init ∈ gtbl := (gw_of (i := 108) (by decide +kernel) (by decide +kernel))
theorem ml_X9_3 : Cond.methodLink RX9 3 objectInit ∈ gtbl := (gw_of (i := 111) (by decide +kernel) (by decide +kernel))
theorem cl_X9_9 : Cond.classLink RX9 9 RX6 ∈ gtbl := (gw_of (i := 114) (by decide +kernel) (by decide +kernel))
theorem in_X6 : Cond.instantiable RX6 2 ∈ gtbl := (gw_of (i := 115) (by decide +kernel) (by decide +kernel))
theorem ml_X6_3 : Cond.methodLink RX6 3 objectInit ∈ gtbl := (gw_of (i := 119) (by decide +kernel) (by decide +kernel))
theorem ac_byte : Cond.arrayClass .byte ∈ gtbl := (gw_of (i := 127) (by decide +kernel) (by decide +kernel))
theorem cl_X9_16 : Cond.classLink RX9 16 RX2 ∈ gtbl := (gw_of (i := 128) (by decide +kernel) (by decide +kernel))
theorem in_X2 : Cond.instantiable RX2 3 ∈ gtbl := (gw_of (i := 129) (by decide +kernel) (by decide +kernel))
theorem ml_X2_3 : Cond.methodLink RX2 3 objectInit ∈ gtbl := (gw_of (i := 133) (by decide +kernel) (by decide +kernel))
theorem ac_int : Cond.arrayClass .int ∈ gtbl := (gw_of (i := 144) (by decide +kernel) (by decide +kernel))
theorem cl_X9_26 : Cond.classLink RX9 26 RX3 ∈ gtbl := (gw_of (i := 145) (by decide +kernel) (by decide +kernel))
theorem in_X3 : Cond.instantiable RX3 9 ∈ gtbl := (gw_of (i := 146) (by decide +kernel) (by decide +kernel))
theorem ml_X9_28 : Cond.methodLink RX9 28 yX3_init ∈ gtbl := (gw_of (i := 147) (by decide +kernel) (by decide +kernel))
theorem ml_X3_3 : Cond.methodLink RX3 3 objectInit ∈ gtbl := (gw_of (i := 150) (by decide +kernel) (by decide +kernel))
theorem cl_X3_9 : Cond.classLink RX3 9 RX7 ∈ gtbl := (gw_of (i := 151) (by decide +kernel) (by decide +kernel))
theorem in_X7 : Cond.instantiable RX7 5 ∈ gtbl := (gw_of (i := 152) (by decide +kernel) (by decide +kernel))
theorem ml_X7_3 : Cond.methodLink RX7 3 objectInit ∈ gtbl := (gw_of (i := 156) (by decide +kernel) (by decide +kernel))
theorem cl_X9_35 : Cond.classLink RX9 35 RX5 ∈ gtbl := (gw_of (i := 201) (by decide +kernel) (by decide +kernel))
theorem in_X5 : Cond.instantiable RX5 2 ∈ gtbl := (gw_of (i := 202) (by decide +kernel) (by decide +kernel))
theorem ml_X9_37 : Cond.methodLink RX9 37 yX5_init ∈ gtbl := (gw_of (i := 203) (by decide +kernel) (by decide +kernel))
theorem ml_X5_3 : Cond.methodLink RX5 3 objectInit ∈ gtbl := (gw_of (i := 206) (by decide +kernel) (by decide +kernel))
theorem cl_X5_9 : Cond.classLink RX5 9 RX2 ∈ gtbl := (gw_of (i := 207) (by decide +kernel) (by decide +kernel))
theorem cl_X9_42 : Cond.classLink RX9 42 RX4 ∈ gtbl := (gw_of (i := 217) (by decide +kernel) (by decide +kernel))
theorem in_X4 : Cond.instantiable RX4 4 ∈ gtbl := (gw_of (i := 218) (by decide +kernel) (by decide +kernel))
theorem ml_X4_3 : Cond.methodLink RX4 3 objectInit ∈ gtbl := (gw_of (i := 222) (by decide +kernel) (by decide +kernel))
theorem cl_X9_49 : Cond.classLink RX9 49 RX1 ∈ gtbl := (gw_of (i := 236) (by decide +kernel) (by decide +kernel))
theorem in_X1 : Cond.instantiable RX1 6 ∈ gtbl := (gw_of (i := 237) (by decide +kernel) (by decide +kernel))
theorem ml_X9_51 : Cond.methodLink RX9 51 yX1_init ∈ gtbl := (gw_of (i := 238) (by decide +kernel) (by decide +kernel))
theorem ml_X1_3 : Cond.methodLink RX1 3 objectInit ∈ gtbl := (gw_of (i := 241) (by decide +kernel) (by decide +kernel))
theorem cl_X9_58 : Cond.classLink RX9 58 RX0 ∈ gtbl := (gw_of (i := 261) (by decide +kernel) (by decide +kernel))
theorem in_X0 : Cond.instantiable RX0 5 ∈ gtbl := (gw_of (i := 262) (by decide +kernel) (by decide +kernel))
theorem ml_X9_60 : Cond.methodLink RX9 60 yX0_init ∈ gtbl := (gw_of (i := 263) (by decide +kernel) (by decide +kernel))
theorem ml_X0_3 : Cond.methodLink RX0 3 objectInit ∈ gtbl := (gw_of (i := 266) (by decide +kernel) (by decide +kernel))
theorem cl_X9_67 : Cond.classLink RX9 67 RX8 ∈ gtbl := (gw_of (i := 283) (by decide +kernel) (by decide +kernel))
theorem in_X8 : Cond.instantiable RX8 18 ∈ gtbl := (gw_of (i := 284) (by decide +kernel) (by decide +kernel))
theorem ml_X9_69 : Cond.methodLink RX9 69 yX8_init ∈ gtbl := (gw_of (i := 285) (by decide +kernel) (by decide +kernel))
theorem ml_X8_3 : Cond.methodLink RX8 3 objectInit ∈ gtbl := (gw_of (i := 288) (by decide +kernel) (by decide +kernel))
theorem ml_L_13 : Cond.methodLink RL 13 yX9_type ∈ gtbl := (gw_of (i := 387) (by decide +kernel) (by decide +kernel))
theorem ml_X9_76 : Cond.methodLink RX9 76 yX9_isOutside ∈ gtbl := (gw_of (i := 391) (by decide +kernel) (by decide +kernel))
theorem ml_X9_80 : Cond.methodLink RX9 80 yX9_refusedAsBad ∈ gtbl := (gw_of (i := 394) (by decide +kernel) (by decide +kernel))
theorem ml_X9_84 : Cond.methodLink RX9 84 yX6_isFull ∈ gtbl := (gw_of (i := 398) (by decide +kernel) (by decide +kernel))
theorem ml_X9_88 : Cond.methodLink RX9 88 yX9_refusedAsFull ∈ gtbl := (gw_of (i := 402) (by decide +kernel) (by decide +kernel))
theorem ml_X9_91 : Cond.methodLink RX9 91 yX6_append ∈ gtbl := (gw_of (i := 406) (by decide +kernel) (by decide +kernel))
theorem ml_X9_95 : Cond.methodLink RX9 95 yX6_length ∈ gtbl := (gw_of (i := 410) (by decide +kernel) (by decide +kernel))
theorem ml_L_18 : Cond.methodLink RL 18 yX9_clear ∈ gtbl := (gw_of (i := 414) (by decide +kernel) (by decide +kernel))
theorem ml_X9_98 : Cond.methodLink RX9 98 yX6_empty ∈ gtbl := (gw_of (i := 418) (by decide +kernel) (by decide +kernel))
theorem ml_L_23 : Cond.methodLink RL 23 yX9_reads ∈ gtbl := (gw_of (i := 422) (by decide +kernel) (by decide +kernel))
theorem ml_X9_101 : Cond.methodLink RX9 101 yX3_readAll ∈ gtbl := (gw_of (i := 426) (by decide +kernel) (by decide +kernel))
theorem ml_X3_34 : Cond.methodLink RX3 34 yX7_cut ∈ gtbl := (gw_of (i := 430) (by decide +kernel) (by decide +kernel))
theorem ml_X7_28 : Cond.methodLink RX7 28 yX6_length ∈ gtbl := (gw_of (i := 434) (by decide +kernel) (by decide +kernel))
theorem ml_X7_34 : Cond.methodLink RX7 34 yX7_lettersFrom ∈ gtbl := (gw_of (i := 435) (by decide +kernel) (by decide +kernel))
theorem ml_X7_44 : Cond.methodLink RX7 44 yX6_at ∈ gtbl := (gw_of (i := 438) (by decide +kernel) (by decide +kernel))
theorem ml_X7_38 : Cond.methodLink RX7 38 ⟨"java/lang/Math", "max", "(II)I"⟩ ∈ gtbl := (gw_of (i := 443) (by decide +kernel) (by decide +kernel))
theorem ml_X7_48 : Cond.methodLink RX7 48 yX7_wordKind ∈ gtbl := (gw_of (i := 446) (by decide +kernel) (by decide +kernel))
theorem ml_X7_58 : Cond.methodLink RX7 58 yX7_spells ∈ gtbl := (gw_of (i := 450) (by decide +kernel) (by decide +kernel))
theorem ml_X7_64 : Cond.methodLink RX7 64 yJ0_length_8abf5 ∈ gtbl := (gw_of (i := 453) (by decide +kernel) (by decide +kernel))
theorem ml_J0_335 : Cond.methodLink RJ0 335 yJ0_coder_7d493 ∈ gtbl := (gw_of (i := 457) (by decide +kernel) (by decide +kernel))
theorem ml_X7_67 : Cond.methodLink RX7 67 yJ0_charAt_5068e ∈ gtbl := (gw_of (i := 463) (by decide +kernel) (by decide +kernel))
theorem ml_J0_492 : Cond.methodLink RJ0 492 yJ0_isLatin1_aae02 ∈ gtbl := (gw_of (i := 467) (by decide +kernel) (by decide +kernel))
theorem ml_J0_495 : Cond.methodLink RJ0 495 yJ1_charAt_3b067 ∈ gtbl := (gw_of (i := 471) (by decide +kernel) (by decide +kernel))
theorem ml_J1_9 : Cond.methodLink RJ1 9 yJ0_checkIndex_df160 ∈ gtbl := (gw_of (i := 474) (by decide +kernel) (by decide +kernel))
theorem ml_J0_1059 : Cond.methodLink RJ0 1059 yJ3_checkIndex_8e157 ∈ gtbl := (gw_of (i := 479) (by decide +kernel) (by decide +kernel))
theorem ml_J0_498 : Cond.methodLink RJ0 498 ⟨"java/lang/StringUTF16", "charAt", "([BI)C"⟩ ∈ gtbl := (gw_of (i := 482) (by decide +kernel) (by decide +kernel))
theorem ml_X7_52 : Cond.methodLink RX7 52 yX7_add ∈ gtbl := (gw_of (i := 502) (by decide +kernel) (by decide +kernel))
theorem ml_X3_38 : Cond.methodLink RX3 38 yX2_becomeNone ∈ gtbl := (gw_of (i := 506) (by decide +kernel) (by decide +kernel))
theorem ml_X3_43 : Cond.methodLink RX3 43 yJ7_fill_53178 ∈ gtbl := (gw_of (i := 510) (by decide +kernel) (by decide +kernel))
theorem ml_X3_49 : Cond.methodLink RX3 49 yX7_ahead ∈ gtbl := (gw_of (i := 513) (by decide +kernel) (by decide +kernel))
theorem ml_X3_53 : Cond.methodLink RX3 53 yX3_readMethod ∈ gtbl := (gw_of (i := 517) (by decide +kernel) (by decide +kernel))
theorem ml_X3_66 : Cond.methodLink RX3 66 yX2_addMethod ∈ gtbl := (gw_of (i := 521) (by decide +kernel) (by decide +kernel))
theorem ml_X3_57 : Cond.methodLink RX3 57 yX3_take ∈ gtbl := (gw_of (i := 525) (by decide +kernel) (by decide +kernel))
theorem ml_X3_107 : Cond.methodLink RX3 107 yX7_step ∈ gtbl := (gw_of (i := 529) (by decide +kernel) (by decide +kernel))
theorem ml_X3_110 : Cond.methodLink RX3 110 yX3_refuse ∈ gtbl := (gw_of (i := 533) (by decide +kernel) (by decide +kernel))
theorem ml_X3_104 : Cond.methodLink RX3 104 yX7_place ∈ gtbl := (gw_of (i := 537) (by decide +kernel) (by decide +kernel))
theorem ml_X3_69 : Cond.methodLink RX3 69 yX3_readLine ∈ gtbl := (gw_of (i := 541) (by decide +kernel) (by decide +kernel))
theorem ml_X3_88 : Cond.methodLink RX3 88 yX3_takeName ∈ gtbl := (gw_of (i := 545) (by decide +kernel) (by decide +kernel))
theorem ml_X3_113 : Cond.methodLink RX3 113 yX3_nameOf ∈ gtbl := (gw_of (i := 549) (by decide +kernel) (by decide +kernel))
theorem ml_X3_91 : Cond.methodLink RX3 91 yX3_readPut ∈ gtbl := (gw_of (i := 552) (by decide +kernel) (by decide +kernel))
theorem ml_X3_94 : Cond.methodLink RX3 94 yX3_readValue ∈ gtbl := (gw_of (i := 556) (by decide +kernel) (by decide +kernel))
theorem ml_X3_97 : Cond.methodLink RX3 97 yX3_noteCall ∈ gtbl := (gw_of (i := 560) (by decide +kernel) (by decide +kernel))
theorem ml_X3_84 : Cond.methodLink RX3 84 yX2_addLine ∈ gtbl := (gw_of (i := 565) (by decide +kernel) (by decide +kernel))
theorem ml_X2_22 : Cond.methodLink RX2 22 yX2_has ∈ gtbl := (gw_of (i := 569) (by decide +kernel) (by decide +kernel))
theorem ml_X3_60 : Cond.methodLink RX3 60 yX3_firstMissingCall ∈ gtbl := (gw_of (i := 573) (by decide +kernel) (by decide +kernel))
theorem ml_X3_63 : Cond.methodLink RX3 63 yX2_count ∈ gtbl := (gw_of (i := 577) (by decide +kernel) (by decide +kernel))
theorem ml_X9_104 : Cond.methodLink RX9 104 yX9_leaveState ∈ gtbl := (gw_of (i := 581) (by decide +kernel) (by decide +kernel))
theorem ml_X9_272 : Cond.methodLink RX9 272 yX5_keep ∈ gtbl := (gw_of (i := 585) (by decide +kernel) (by decide +kernel))
theorem ml_X5_22 : Cond.methodLink RX5 22 yX5_loseOldest ∈ gtbl := (gw_of (i := 589) (by decide +kernel) (by decide +kernel))
theorem ml_X5_25 : Cond.methodLink RX5 25 yX2_becomeLike ∈ gtbl := (gw_of (i := 593) (by decide +kernel) (by decide +kernel))
theorem ml_X2_43 : Cond.methodLink RX2 43 ⟨RJ10, "arraycopy", "(Ljava/lang/Object;ILjava/lang/Object;II)V"⟩ ∈ gtbl := (gw_of (i := 597) (by decide +kernel) (by decide +kernel))
theorem ml_X9_178 : Cond.methodLink RX9 178 yX9_forgetFindings ∈ gtbl := (gw_of (i := 600) (by decide +kernel) (by decide +kernel))
theorem ml_X9_107 : Cond.methodLink RX9 107 yX2_becomeLike ∈ gtbl := (gw_of (i := 604) (by decide +kernel) (by decide +kernel))
theorem ml_X9_111 : Cond.methodLink RX9 111 yX2_count ∈ gtbl := (gw_of (i := 605) (by decide +kernel) (by decide +kernel))
theorem ml_L_27 : Cond.methodLink RL 27 yX9_drops ∈ gtbl := (gw_of (i := 606) (by decide +kernel) (by decide +kernel))
theorem ml_X9_114 : Cond.methodLink RX9 114 yX2_hasLine ∈ gtbl := (gw_of (i := 610) (by decide +kernel) (by decide +kernel))
theorem ml_X2_26 : Cond.methodLink RX2 26 yX2_lines ∈ gtbl := (gw_of (i := 614) (by decide +kernel) (by decide +kernel))
theorem ml_X9_117 : Cond.methodLink RX9 117 yX2_removeLine ∈ gtbl := (gw_of (i := 618) (by decide +kernel) (by decide +kernel))
theorem ml_X2_39 : Cond.methodLink RX2 39 yX2_hasLine ∈ gtbl := (gw_of (i := 622) (by decide +kernel) (by decide +kernel))
theorem ml_X9_121 : Cond.methodLink RX9 121 yX2_lines ∈ gtbl := (gw_of (i := 623) (by decide +kernel) (by decide +kernel))
theorem ml_L_32 : Cond.methodLink RL 32 yX9_swaps ∈ gtbl := (gw_of (i := 624) (by decide +kernel) (by decide +kernel))
theorem ml_X9_125 : Cond.methodLink RX9 125 yX2_swapWithNext ∈ gtbl := (gw_of (i := 628) (by decide +kernel) (by decide +kernel))
theorem ml_L_36 : Cond.methodLink RL 36 yX9_of ∈ gtbl := (gw_of (i := 632) (by decide +kernel) (by decide +kernel))
theorem ml_X9_128 : Cond.methodLink RX9 128 yX2_has ∈ gtbl := (gw_of (i := 636) (by decide +kernel) (by decide +kernel))
theorem ml_X9_132 : Cond.methodLink RX9 132 yX9_findMays ∈ gtbl := (gw_of (i := 637) (by decide +kernel) (by decide +kernel))
theorem ml_X9_282 : Cond.methodLink RX9 282 yX4_number ∈ gtbl := (gw_of (i := 641) (by decide +kernel) (by decide +kernel))
theorem ml_X4_29 : Cond.methodLink RX4 29 yJ7_fill_53178 ∈ gtbl := (gw_of (i := 645) (by decide +kernel) (by decide +kernel))
theorem ml_X4_35 : Cond.methodLink RX4 35 yX2_count ∈ gtbl := (gw_of (i := 646) (by decide +kernel) (by decide +kernel))
theorem ml_X4_40 : Cond.methodLink RX4 40 yX2_lines ∈ gtbl := (gw_of (i := 647) (by decide +kernel) (by decide +kernel))
theorem ml_X4_44 : Cond.methodLink RX4 44 yX2_sort ∈ gtbl := (gw_of (i := 648) (by decide +kernel) (by decide +kernel))
theorem ml_X2_29 : Cond.methodLink RX2 29 yX2_code ∈ gtbl := (gw_of (i := 652) (by decide +kernel) (by decide +kernel))
theorem ml_X4_48 : Cond.methodLink RX4 48 yX4_add ∈ gtbl := (gw_of (i := 656) (by decide +kernel) (by decide +kernel))
theorem ml_X9_285 : Cond.methodLink RX9 285 yX1_find ∈ gtbl := (gw_of (i := 660) (by decide +kernel) (by decide +kernel))
theorem ml_X1_38 : Cond.methodLink RX1 38 yJ7_fill_53178 ∈ gtbl := (gw_of (i := 664) (by decide +kernel) (by decide +kernel))
theorem ml_X1_48 : Cond.methodLink RX1 48 yX2_count ∈ gtbl := (gw_of (i := 665) (by decide +kernel) (by decide +kernel))
theorem ml_X1_54 : Cond.methodLink RX1 54 yX2_lines ∈ gtbl := (gw_of (i := 666) (by decide +kernel) (by decide +kernel))
theorem ml_X1_57 : Cond.methodLink RX1 57 yX1_addByLine ∈ gtbl := (gw_of (i := 667) (by decide +kernel) (by decide +kernel))
theorem ml_X1_61 : Cond.methodLink RX1 61 yX2_name ∈ gtbl := (gw_of (i := 671) (by decide +kernel) (by decide +kernel))
theorem ml_X1_65 : Cond.methodLink RX1 65 yX2_other ∈ gtbl := (gw_of (i := 675) (by decide +kernel) (by decide +kernel))
theorem ml_X1_68 : Cond.methodLink RX1 68 yX1_inName ∈ gtbl := (gw_of (i := 679) (by decide +kernel) (by decide +kernel))
theorem ml_X1_71 : Cond.methodLink RX1 71 yX2_sort ∈ gtbl := (gw_of (i := 684) (by decide +kernel) (by decide +kernel))
theorem ml_X1_74 : Cond.methodLink RX1 74 yX4_ofLine ∈ gtbl := (gw_of (i := 685) (by decide +kernel) (by decide +kernel))
theorem ml_X1_79 : Cond.methodLink RX1 79 yX1_addToName ∈ gtbl := (gw_of (i := 690) (by decide +kernel) (by decide +kernel))
theorem ml_X1_83 : Cond.methodLink RX1 83 yX1_addToFields ∈ gtbl := (gw_of (i := 694) (by decide +kernel) (by decide +kernel))
theorem ml_X1_93 : Cond.methodLink RX1 93 yX4_count ∈ gtbl := (gw_of (i := 698) (by decide +kernel) (by decide +kernel))
theorem ml_X1_34 : Cond.methodLink RX1 34 yX1_inFields ∈ gtbl := (gw_of (i := 702) (by decide +kernel) (by decide +kernel))
theorem ml_X1_86 : Cond.methodLink RX1 86 yX1_addToOpenPlace ∈ gtbl := (gw_of (i := 706) (by decide +kernel) (by decide +kernel))
theorem ml_X1_90 : Cond.methodLink RX1 90 yX2_callee ∈ gtbl := (gw_of (i := 710) (by decide +kernel) (by decide +kernel))
theorem ml_X9_288 : Cond.methodLink RX9 288 yX0_find ∈ gtbl := (gw_of (i := 714) (by decide +kernel) (by decide +kernel))
theorem ml_X0_44 : Cond.methodLink RX0 44 yX1_inOpenPlace ∈ gtbl := (gw_of (i := 718) (by decide +kernel) (by decide +kernel))
theorem ml_X0_49 : Cond.methodLink RX0 49 yX1_reachedFrom ∈ gtbl := (gw_of (i := 722) (by decide +kernel) (by decide +kernel))
theorem ml_X0_52 : Cond.methodLink RX0 52 yX2_count ∈ gtbl := (gw_of (i := 726) (by decide +kernel) (by decide +kernel))
theorem ml_X0_55 : Cond.methodLink RX0 55 yX1_inName ∈ gtbl := (gw_of (i := 727) (by decide +kernel) (by decide +kernel))
theorem ml_X0_59 : Cond.methodLink RX0 59 yX0_giveFates ∈ gtbl := (gw_of (i := 728) (by decide +kernel) (by decide +kernel))
theorem ml_X0_34 : Cond.methodLink RX0 34 yX4_count ∈ gtbl := (gw_of (i := 732) (by decide +kernel) (by decide +kernel))
theorem ml_X0_40 : Cond.methodLink RX0 40 yX4_methodOf ∈ gtbl := (gw_of (i := 733) (by decide +kernel) (by decide +kernel))
theorem ml_X0_69 : Cond.methodLink RX0 69 yX0_fateOf ∈ gtbl := (gw_of (i := 737) (by decide +kernel) (by decide +kernel))
theorem ml_X0_63 : Cond.methodLink RX0 63 yX0_allKept ∈ gtbl := (gw_of (i := 740) (by decide +kernel) (by decide +kernel))
theorem ml_X0_66 : Cond.methodLink RX0 66 yX0_idleAmong ∈ gtbl := (gw_of (i := 744) (by decide +kernel) (by decide +kernel))
theorem ml_X0_72 : Cond.methodLink RX0 72 yX2_lines ∈ gtbl := (gw_of (i := 748) (by decide +kernel) (by decide +kernel))
theorem ml_X0_75 : Cond.methodLink RX0 75 yX2_name ∈ gtbl := (gw_of (i := 749) (by decide +kernel) (by decide +kernel))
theorem ml_X0_78 : Cond.methodLink RX0 78 yX2_sort ∈ gtbl := (gw_of (i := 750) (by decide +kernel) (by decide +kernel))
theorem ml_X9_135 : Cond.methodLink RX9 135 yX9_ofMethod ∈ gtbl := (gw_of (i := 751) (by decide +kernel) (by decide +kernel))
theorem ml_X9_195 : Cond.methodLink RX9 195 yX4_inMethod ∈ gtbl := (gw_of (i := 755) (by decide +kernel) (by decide +kernel))
theorem ml_X9_198 : Cond.methodLink RX9 198 yX0_keptIn ∈ gtbl := (gw_of (i := 759) (by decide +kernel) (by decide +kernel))
theorem ml_X9_201 : Cond.methodLink RX9 201 yX0_idleLines ∈ gtbl := (gw_of (i := 763) (by decide +kernel) (by decide +kernel))
theorem ml_X9_204 : Cond.methodLink RX9 204 yX2_calledBy ∈ gtbl := (gw_of (i := 768) (by decide +kernel) (by decide +kernel))
theorem ml_X2_33 : Cond.methodLink RX2 33 yX2_sort ∈ gtbl := (gw_of (i := 772) (by decide +kernel) (by decide +kernel))
theorem ml_X2_36 : Cond.methodLink RX2 36 yX2_callee ∈ gtbl := (gw_of (i := 773) (by decide +kernel) (by decide +kernel))
theorem ml_L_40 : Cond.methodLink RL 40 yX9_line ∈ gtbl := (gw_of (i := 774) (by decide +kernel) (by decide +kernel))
theorem ml_X9_139 : Cond.methodLink RX9 139 yX9_ofLine ∈ gtbl := (gw_of (i := 778) (by decide +kernel) (by decide +kernel))
theorem ml_X9_207 : Cond.methodLink RX9 207 yX2_sort ∈ gtbl := (gw_of (i := 782) (by decide +kernel) (by decide +kernel))
theorem ml_X9_210 : Cond.methodLink RX9 210 yX2_name ∈ gtbl := (gw_of (i := 783) (by decide +kernel) (by decide +kernel))
theorem ml_X9_213 : Cond.methodLink RX9 213 yX2_hasOther ∈ gtbl := (gw_of (i := 784) (by decide +kernel) (by decide +kernel))
theorem ml_X9_216 : Cond.methodLink RX9 216 yX2_other ∈ gtbl := (gw_of (i := 788) (by decide +kernel) (by decide +kernel))
theorem ml_X9_219 : Cond.methodLink RX9 219 yX2_callee ∈ gtbl := (gw_of (i := 789) (by decide +kernel) (by decide +kernel))
theorem ml_X9_222 : Cond.methodLink RX9 222 yX4_ofLine ∈ gtbl := (gw_of (i := 790) (by decide +kernel) (by decide +kernel))
theorem ml_L_45 : Cond.methodLink RL 45 yX9_site ∈ gtbl := (gw_of (i := 791) (by decide +kernel) (by decide +kernel))
theorem ml_X9_143 : Cond.methodLink RX9 143 yX4_count ∈ gtbl := (gw_of (i := 795) (by decide +kernel) (by decide +kernel))
theorem ml_X9_144 : Cond.methodLink RX9 144 yX9_ofSite ∈ gtbl := (gw_of (i := 796) (by decide +kernel) (by decide +kernel))
theorem ml_X9_224 : Cond.methodLink RX9 224 yX4_methodOf ∈ gtbl := (gw_of (i := 800) (by decide +kernel) (by decide +kernel))
theorem ml_X9_227 : Cond.methodLink RX9 227 yX4_lineOf ∈ gtbl := (gw_of (i := 801) (by decide +kernel) (by decide +kernel))
theorem ml_X9_230 : Cond.methodLink RX9 230 yX0_ofSite ∈ gtbl := (gw_of (i := 805) (by decide +kernel) (by decide +kernel))
theorem ml_X9_232 : Cond.methodLink RX9 232 yX1_inField ∈ gtbl := (gw_of (i := 809) (by decide +kernel) (by decide +kernel))
theorem ml_L_49 : Cond.methodLink RL 49 yX9_may ∈ gtbl := (gw_of (i := 813) (by decide +kernel) (by decide +kernel))
theorem ml_X9_147 : Cond.methodLink RX9 147 yX1_inName ∈ gtbl := (gw_of (i := 817) (by decide +kernel) (by decide +kernel))
theorem ml_L_53 : Cond.methodLink RL 53 yX9_open ∈ gtbl := (gw_of (i := 818) (by decide +kernel) (by decide +kernel))
theorem ml_X9_150 : Cond.methodLink RX9 150 yX1_inOpenPlace ∈ gtbl := (gw_of (i := 822) (by decide +kernel) (by decide +kernel))
theorem ml_L_57 : Cond.methodLink RL 57 yX9_reached ∈ gtbl := (gw_of (i := 823) (by decide +kernel) (by decide +kernel))
theorem ml_X9_153 : Cond.methodLink RX9 153 yX1_reachedFrom ∈ gtbl := (gw_of (i := 827) (by decide +kernel) (by decide +kernel))
theorem ml_L_61 : Cond.methodLink RL 61 yX9_fates ∈ gtbl := (gw_of (i := 828) (by decide +kernel) (by decide +kernel))
theorem ml_X9_156 : Cond.methodLink RX9 156 yX0_countOf ∈ gtbl := (gw_of (i := 832) (by decide +kernel) (by decide +kernel))
theorem ml_L_65 : Cond.methodLink RL 65 yX9_run ∈ gtbl := (gw_of (i := 836) (by decide +kernel) (by decide +kernel))
theorem ml_X9_159 : Cond.methodLink RX9 159 yX9_findRun ∈ gtbl := (gw_of (i := 840) (by decide +kernel) (by decide +kernel))
theorem ml_X9_289 : Cond.methodLink RX9 289 yX8_start ∈ gtbl := (gw_of (i := 844) (by decide +kernel) (by decide +kernel))
theorem ml_X8_79 : Cond.methodLink RX8 79 yJ7_fill_53178 ∈ gtbl := (gw_of (i := 848) (by decide +kernel) (by decide +kernel))
theorem ml_X8_85 : Cond.methodLink RX8 85 yX2_has ∈ gtbl := (gw_of (i := 849) (by decide +kernel) (by decide +kernel))
theorem ml_X8_90 : Cond.methodLink RX8 90 yX8_callMethod ∈ gtbl := (gw_of (i := 850) (by decide +kernel) (by decide +kernel))
theorem ml_X8_94 : Cond.methodLink RX8 94 yX8_setName ∈ gtbl := (gw_of (i := 854) (by decide +kernel) (by decide +kernel))
theorem ml_X8_98 : Cond.methodLink RX8 98 yX2_lines ∈ gtbl := (gw_of (i := 859) (by decide +kernel) (by decide +kernel))
theorem ml_X8_102 : Cond.methodLink RX8 102 yX8_doLine ∈ gtbl := (gw_of (i := 860) (by decide +kernel) (by decide +kernel))
theorem ml_X8_112 : Cond.methodLink RX8 112 yX2_name ∈ gtbl := (gw_of (i := 864) (by decide +kernel) (by decide +kernel))
theorem ml_X8_105 : Cond.methodLink RX8 105 yX8_inName ∈ gtbl := (gw_of (i := 865) (by decide +kernel) (by decide +kernel))
theorem ml_X8_115 : Cond.methodLink RX8 115 yX2_other ∈ gtbl := (gw_of (i := 869) (by decide +kernel) (by decide +kernel))
theorem ml_X8_118 : Cond.methodLink RX8 118 yX2_sort ∈ gtbl := (gw_of (i := 870) (by decide +kernel) (by decide +kernel))
theorem ml_X8_121 : Cond.methodLink RX8 121 yX4_ofLine ∈ gtbl := (gw_of (i := 871) (by decide +kernel) (by decide +kernel))
theorem ml_X8_126 : Cond.methodLink RX8 126 yX8_newThing ∈ gtbl := (gw_of (i := 872) (by decide +kernel) (by decide +kernel))
theorem ml_X8_150 : Cond.methodLink RX8 150 yX8_makeMoreRoom ∈ gtbl := (gw_of (i := 876) (by decide +kernel) (by decide +kernel))
theorem ml_X8_153 : Cond.methodLink RX8 153 yJ7_copyOf_59c91 ∈ gtbl := (gw_of (i := 880) (by decide +kernel) (by decide +kernel))
theorem ml_J7_316 : Cond.methodLink RJ7 316 ⟨"[I", "clone", "()Ljava/lang/Object;"⟩ ∈ gtbl := (gw_of (i := 883) (by decide +kernel) (by decide +kernel))
theorem cl_J7_317 : Cond.classLink RJ7 317 "[I" ∈ gtbl := (gw_of (i := 889) (by decide +kernel) (by decide +kernel))
theorem ml_J7_304 : Cond.methodLink RJ7 304 ⟨"java/lang/Math", "min", "(II)I"⟩ ∈ gtbl := (gw_of (i := 890) (by decide +kernel) (by decide +kernel))
theorem ml_J7_150 : Cond.methodLink RJ7 150 ⟨RJ10, "arraycopy", "(Ljava/lang/Object;ILjava/lang/Object;II)V"⟩ ∈ gtbl := (gw_of (i := 893) (by decide +kernel) (by decide +kernel))
theorem ml_X8_129 : Cond.methodLink RX8 129 yX8_putIntoField ∈ gtbl := (gw_of (i := 894) (by decide +kernel) (by decide +kernel))
theorem ml_X8_75 : Cond.methodLink RX8 75 yX8_isThing ∈ gtbl := (gw_of (i := 898) (by decide +kernel) (by decide +kernel))
theorem ml_X8_133 : Cond.methodLink RX8 133 yX8_takeFromField ∈ gtbl := (gw_of (i := 902) (by decide +kernel) (by decide +kernel))
theorem ml_X8_136 : Cond.methodLink RX8 136 yX0_idleLines ∈ gtbl := (gw_of (i := 906) (by decide +kernel) (by decide +kernel))
theorem ml_X8_141 : Cond.methodLink RX8 141 yX8_lock ∈ gtbl := (gw_of (i := 907) (by decide +kernel) (by decide +kernel))
theorem ml_X8_144 : Cond.methodLink RX8 144 yX8_callFrom ∈ gtbl := (gw_of (i := 911) (by decide +kernel) (by decide +kernel))
theorem ml_X8_147 : Cond.methodLink RX8 147 yX2_callee ∈ gtbl := (gw_of (i := 915) (by decide +kernel) (by decide +kernel))
theorem ml_X8_108 : Cond.methodLink RX8 108 yX8_findLeaks ∈ gtbl := (gw_of (i := 916) (by decide +kernel) (by decide +kernel))
theorem ml_X8_157 : Cond.methodLink RX8 157 yX4_inMethod ∈ gtbl := (gw_of (i := 920) (by decide +kernel) (by decide +kernel))
theorem ml_X8_160 : Cond.methodLink RX8 160 yX8_followFrom ∈ gtbl := (gw_of (i := 921) (by decide +kernel) (by decide +kernel))
theorem ml_X9_162 : Cond.methodLink RX9 162 yX9_ofRun ∈ gtbl := (gw_of (i := 925) (by decide +kernel) (by decide +kernel))
theorem ml_X9_235 : Cond.methodLink RX9 235 yX8_failed ∈ gtbl := (gw_of (i := 929) (by decide +kernel) (by decide +kernel))
theorem ml_X9_238 : Cond.methodLink RX9 238 yX8_made ∈ gtbl := (gw_of (i := 933) (by decide +kernel) (by decide +kernel))
theorem ml_X9_241 : Cond.methodLink RX9 241 yX8_locks ∈ gtbl := (gw_of (i := 937) (by decide +kernel) (by decide +kernel))
theorem ml_X9_244 : Cond.methodLink RX9 244 yX8_idleLocks ∈ gtbl := (gw_of (i := 941) (by decide +kernel) (by decide +kernel))
theorem ml_X9_247 : Cond.methodLink RX9 247 yX8_calls ∈ gtbl := (gw_of (i := 945) (by decide +kernel) (by decide +kernel))
theorem ml_X9_250 : Cond.methodLink RX9 250 yX8_leaks ∈ gtbl := (gw_of (i := 949) (by decide +kernel) (by decide +kernel))
theorem ml_L_69 : Cond.methodLink RL 69 yX9_ran ∈ gtbl := (gw_of (i := 953) (by decide +kernel) (by decide +kernel))
theorem ml_X9_165 : Cond.methodLink RX9 165 yX9_ofSiteRun ∈ gtbl := (gw_of (i := 957) (by decide +kernel) (by decide +kernel))
theorem ml_X9_253 : Cond.methodLink RX9 253 yX8_madeOf ∈ gtbl := (gw_of (i := 961) (by decide +kernel) (by decide +kernel))
theorem ml_X9_256 : Cond.methodLink RX9 256 yX8_leaksOf ∈ gtbl := (gw_of (i := 965) (by decide +kernel) (by decide +kernel))
theorem ml_X9_259 : Cond.methodLink RX9 259 yX8_locksOf ∈ gtbl := (gw_of (i := 969) (by decide +kernel) (by decide +kernel))
theorem ml_L_73 : Cond.methodLink RL 73 yX9_held ∈ gtbl := (gw_of (i := 973) (by decide +kernel) (by decide +kernel))
theorem ml_X9_168 : Cond.methodLink RX9 168 yX8_siteInOpenPlace ∈ gtbl := (gw_of (i := 977) (by decide +kernel) (by decide +kernel))
theorem ml_L_77 : Cond.methodLink RL 77 yX9_back ∈ gtbl := (gw_of (i := 981) (by decide +kernel) (by decide +kernel))
theorem ml_X9_171 : Cond.methodLink RX9 171 yX5_count ∈ gtbl := (gw_of (i := 985) (by decide +kernel) (by decide +kernel))
theorem ml_X9_172 : Cond.methodLink RX9 172 yX9_refusedAsNo ∈ gtbl := (gw_of (i := 989) (by decide +kernel) (by decide +kernel))
theorem ml_X9_175 : Cond.methodLink RX9 175 yX5_giveBack ∈ gtbl := (gw_of (i := 993) (by decide +kernel) (by decide +kernel))
theorem ml_L_81 : Cond.methodLink RL 81 yX9_told ∈ gtbl := (gw_of (i := 997) (by decide +kernel) (by decide +kernel))
theorem ml_X9_181 : Cond.methodLink RX9 181 yX9_ofAll ∈ gtbl := (gw_of (i := 1001) (by decide +kernel) (by decide +kernel))
theorem ml_L_85 : Cond.methodLink RL 85 yX9_digest ∈ gtbl := (gw_of (i := 1005) (by decide +kernel) (by decide +kernel))
theorem kl_X9_184 : Cond.constantLong RX9 184 2503 ∈ gtbl := (gw_of (i := 1009) (by decide +kernel) (by decide +kernel))
theorem kl_X9_186 : Cond.constantLong RX9 186 31 ∈ gtbl := (gw_of (i := 1010) (by decide +kernel) (by decide +kernel))
theorem ml_X9_188 : Cond.methodLink RX9 188 yX9_digestWithMethod ∈ gtbl := (gw_of (i := 1011) (by decide +kernel) (by decide +kernel))
theorem ml_X9_192 : Cond.methodLink RX9 192 yX9_digestWithSite ∈ gtbl := (gw_of (i := 1015) (by decide +kernel) (by decide +kernel))
theorem cl_L_10 : Cond.classLink RL 10 RX10 ∈ gtbl := (gw_of (i := 1019) (by decide +kernel) (by decide +kernel))
theorem in_X10 : Cond.instantiable RX10 45 ∈ gtbl := (gw_of (i := 1020) (by decide +kernel) (by decide +kernel))
theorem ml_L_12 : Cond.methodLink RL 12 yX10_init ∈ gtbl := (gw_of (i := 1021) (by decide +kernel) (by decide +kernel))
theorem ml_X10_1 : Cond.methodLink RX10 1 objectInit ∈ gtbl := (gw_of (i := 1024) (by decide +kernel) (by decide +kernel))
theorem ml_L_17 : Cond.methodLink RL 17 yX10_type ∈ gtbl := (gw_of (i := 1161) (by decide +kernel) (by decide +kernel))
theorem ml_X10_99 : Cond.methodLink RX10 99 yX10_in ∈ gtbl := (gw_of (i := 1165) (by decide +kernel) (by decide +kernel))
theorem ml_X10_156 : Cond.methodLink RX10 156 yX10_refuse ∈ gtbl := (gw_of (i := 1168) (by decide +kernel) (by decide +kernel))
theorem ml_L_22 : Cond.methodLink RL 22 yX10_clear ∈ gtbl := (gw_of (i := 1172) (by decide +kernel) (by decide +kernel))
theorem ml_L_26 : Cond.methodLink RL 26 yX10_reads ∈ gtbl := (gw_of (i := 1176) (by decide +kernel) (by decide +kernel))
theorem ml_X10_159 : Cond.methodLink RX10 159 yX10_readText ∈ gtbl := (gw_of (i := 1180) (by decide +kernel) (by decide +kernel))
theorem ml_X10_117 : Cond.methodLink RX10 117 yX10_next ∈ gtbl := (gw_of (i := 1184) (by decide +kernel) (by decide +kernel))
theorem ml_X10_109 : Cond.methodLink RX10 109 yX10_isWordByte ∈ gtbl := (gw_of (i := 1188) (by decide +kernel) (by decide +kernel))
theorem ml_X10_113 : Cond.methodLink RX10 113 yX10_isWord ∈ gtbl := (gw_of (i := 1192) (by decide +kernel) (by decide +kernel))
theorem ml_X10_153 : Cond.methodLink RX10 153 yX10_readMethod ∈ gtbl := (gw_of (i := 1196) (by decide +kernel) (by decide +kernel))
theorem ml_X10_150 : Cond.methodLink RX10 150 yX10_readLine ∈ gtbl := (gw_of (i := 1200) (by decide +kernel) (by decide +kernel))
theorem ml_X10_120 : Cond.methodLink RX10 120 yX10_nameOf ∈ gtbl := (gw_of (i := 1204) (by decide +kernel) (by decide +kernel))
theorem ml_X10_140 : Cond.methodLink RX10 140 yX10_nextName ∈ gtbl := (gw_of (i := 1207) (by decide +kernel) (by decide +kernel))
theorem ml_X10_136 : Cond.methodLink RX10 136 yX10_isNext ∈ gtbl := (gw_of (i := 1211) (by decide +kernel) (by decide +kernel))
theorem ml_X10_147 : Cond.methodLink RX10 147 yX10_readRight ∈ gtbl := (gw_of (i := 1215) (by decide +kernel) (by decide +kernel))
theorem ml_X10_162 : Cond.methodLink RX10 162 yX10_note ∈ gtbl := (gw_of (i := 1219) (by decide +kernel) (by decide +kernel))
theorem ml_X10_89 : Cond.methodLink RX10 89 yX10_bring ∈ gtbl := (gw_of (i := 1223) (by decide +kernel) (by decide +kernel))
theorem ml_L_31 : Cond.methodLink RL 31 yX10_drops ∈ gtbl := (gw_of (i := 1226) (by decide +kernel) (by decide +kernel))
theorem ml_X10_171 : Cond.methodLink RX10 171 yX10_isLine ∈ gtbl := (gw_of (i := 1230) (by decide +kernel) (by decide +kernel))
theorem ml_X10_165 : Cond.methodLink RX10 165 yX10_isMethod ∈ gtbl := (gw_of (i := 1234) (by decide +kernel) (by decide +kernel))
theorem ml_X10_168 : Cond.methodLink RX10 168 yX10_linesOf ∈ gtbl := (gw_of (i := 1238) (by decide +kernel) (by decide +kernel))
theorem ml_L_35 : Cond.methodLink RL 35 yX10_swaps ∈ gtbl := (gw_of (i := 1242) (by decide +kernel) (by decide +kernel))
theorem ml_L_39 : Cond.methodLink RL 39 yX10_of ∈ gtbl := (gw_of (i := 1246) (by decide +kernel) (by decide +kernel))
theorem ml_X10_214 : Cond.methodLink RX10 214 yX10_findMays ∈ gtbl := (gw_of (i := 1250) (by decide +kernel) (by decide +kernel))
theorem ml_X10_196 : Cond.methodLink RX10 196 yX10_findSites ∈ gtbl := (gw_of (i := 1254) (by decide +kernel) (by decide +kernel))
theorem ml_X10_178 : Cond.methodLink RX10 178 yX10_lineAt ∈ gtbl := (gw_of (i := 1258) (by decide +kernel) (by decide +kernel))
theorem ml_X10_199 : Cond.methodLink RX10 199 yX10_goThrough ∈ gtbl := (gw_of (i := 1262) (by decide +kernel) (by decide +kernel))
theorem ml_X10_189 : Cond.methodLink RX10 189 yX10_add ∈ gtbl := (gw_of (i := 1266) (by decide +kernel) (by decide +kernel))
theorem ml_X10_186 : Cond.methodLink RX10 186 yX10_has ∈ gtbl := (gw_of (i := 1270) (by decide +kernel) (by decide +kernel))
theorem ml_X10_193 : Cond.methodLink RX10 193 yX10_fields ∈ gtbl := (gw_of (i := 1273) (by decide +kernel) (by decide +kernel))
theorem ml_X10_217 : Cond.methodLink RX10 217 yX10_ofMethod ∈ gtbl := (gw_of (i := 1277) (by decide +kernel) (by decide +kernel))
theorem ml_X10_211 : Cond.methodLink RX10 211 yX10_idleOf ∈ gtbl := (gw_of (i := 1281) (by decide +kernel) (by decide +kernel))
theorem ml_X10_208 : Cond.methodLink RX10 208 yX10_fated ∈ gtbl := (gw_of (i := 1285) (by decide +kernel) (by decide +kernel))
theorem ml_X10_205 : Cond.methodLink RX10 205 yX10_fateOf ∈ gtbl := (gw_of (i := 1289) (by decide +kernel) (by decide +kernel))
theorem ml_X10_202 : Cond.methodLink RX10 202 yX10_reachedFrom ∈ gtbl := (gw_of (i := 1293) (by decide +kernel) (by decide +kernel))
theorem ml_L_44 : Cond.methodLink RL 44 yX10_line ∈ gtbl := (gw_of (i := 1297) (by decide +kernel) (by decide +kernel))
theorem ml_X10_221 : Cond.methodLink RX10 221 yX10_ofLine ∈ gtbl := (gw_of (i := 1301) (by decide +kernel) (by decide +kernel))
theorem ml_L_48 : Cond.methodLink RL 48 yX10_site ∈ gtbl := (gw_of (i := 1305) (by decide +kernel) (by decide +kernel))
theorem ml_X10_224 : Cond.methodLink RX10 224 yX10_ofSite ∈ gtbl := (gw_of (i := 1309) (by decide +kernel) (by decide +kernel))
theorem ml_L_52 : Cond.methodLink RL 52 yX10_may ∈ gtbl := (gw_of (i := 1313) (by decide +kernel) (by decide +kernel))
theorem ml_L_56 : Cond.methodLink RL 56 yX10_open ∈ gtbl := (gw_of (i := 1317) (by decide +kernel) (by decide +kernel))
theorem ml_L_60 : Cond.methodLink RL 60 yX10_reached ∈ gtbl := (gw_of (i := 1321) (by decide +kernel) (by decide +kernel))
theorem ml_L_64 : Cond.methodLink RL 64 yX10_fates ∈ gtbl := (gw_of (i := 1325) (by decide +kernel) (by decide +kernel))
theorem ml_X10_227 : Cond.methodLink RX10 227 yX10_ones ∈ gtbl := (gw_of (i := 1329) (by decide +kernel) (by decide +kernel))
theorem ml_L_68 : Cond.methodLink RL 68 yX10_run ∈ gtbl := (gw_of (i := 1332) (by decide +kernel) (by decide +kernel))
theorem ml_X10_273 : Cond.methodLink RX10 273 yX10_goRun ∈ gtbl := (gw_of (i := 1336) (by decide +kernel) (by decide +kernel))
theorem ml_X10_267 : Cond.methodLink RX10 267 yX10_call ∈ gtbl := (gw_of (i := 1340) (by decide +kernel) (by decide +kernel))
theorem ml_X10_270 : Cond.methodLink RX10 270 yX10_step ∈ gtbl := (gw_of (i := 1344) (by decide +kernel) (by decide +kernel))
theorem ml_X10_254 : Cond.methodLink RX10 254 yX10_end ∈ gtbl := (gw_of (i := 1348) (by decide +kernel) (by decide +kernel))
theorem ml_X10_242 : Cond.methodLink RX10 242 yX10_follow ∈ gtbl := (gw_of (i := 1352) (by decide +kernel) (by decide +kernel))
theorem ml_X10_260 : Cond.methodLink RX10 260 yX10_make ∈ gtbl := (gw_of (i := 1356) (by decide +kernel) (by decide +kernel))
theorem ml_X10_263 : Cond.methodLink RX10 263 yX10_lock ∈ gtbl := (gw_of (i := 1360) (by decide +kernel) (by decide +kernel))
theorem ml_X10_276 : Cond.methodLink RX10 276 yX10_ofRun ∈ gtbl := (gw_of (i := 1364) (by decide +kernel) (by decide +kernel))
theorem ml_L_72 : Cond.methodLink RL 72 yX10_ran ∈ gtbl := (gw_of (i := 1368) (by decide +kernel) (by decide +kernel))
theorem ml_X10_279 : Cond.methodLink RX10 279 yX10_ranOf ∈ gtbl := (gw_of (i := 1372) (by decide +kernel) (by decide +kernel))
theorem ml_L_76 : Cond.methodLink RL 76 yX10_held ∈ gtbl := (gw_of (i := 1376) (by decide +kernel) (by decide +kernel))
theorem ml_X10_282 : Cond.methodLink RX10 282 yX10_heldNow ∈ gtbl := (gw_of (i := 1380) (by decide +kernel) (by decide +kernel))
theorem ml_L_80 : Cond.methodLink RL 80 yX10_back ∈ gtbl := (gw_of (i := 1384) (by decide +kernel) (by decide +kernel))
theorem ml_L_84 : Cond.methodLink RL 84 yX10_told ∈ gtbl := (gw_of (i := 1388) (by decide +kernel) (by decide +kernel))
theorem ml_X10_285 : Cond.methodLink RX10 285 yX10_toldOf ∈ gtbl := (gw_of (i := 1392) (by decide +kernel) (by decide +kernel))
theorem ml_L_89 : Cond.methodLink RL 89 yX10_digest ∈ gtbl := (gw_of (i := 1396) (by decide +kernel) (by decide +kernel))
theorem kl_X10_288 : Cond.constantLong RX10 288 2503 ∈ gtbl := (gw_of (i := 1400) (by decide +kernel) (by decide +kernel))
theorem kl_X10_290 : Cond.constantLong RX10 290 31 ∈ gtbl := (gw_of (i := 1401) (by decide +kernel) (by decide +kernel))
theorem oi_inst : Cond.instanceMethod objectInit ∈ gtbl := (gw_of (i := 112) (by decide +kernel) (by decide +kernel))
theorem oi_code : Cond.code objectInit ⟨#[0xb1]⟩ 1 none ∈ gtbl := (gw_of (i := 113) (by decide +kernel) (by decide +kernel))
theorem mmax_st : Cond.static Lib.Math.max.name ∈ gtbl := (gw_of (i := 444) (by decide +kernel) (by decide +kernel))
theorem mmax_code : Cond.code Lib.Math.max.name Lib.Math.max.code 2 (some .int) ∈ gtbl := (gw_of (i := 445) (by decide +kernel) (by decide +kernel))
theorem mmin_st : Cond.static Lib.Math.min.name ∈ gtbl := (gw_of (i := 891) (by decide +kernel) (by decide +kernel))
theorem mmin_code : Cond.code Lib.Math.min.name Lib.Math.min.code 2 (some .int) ∈ gtbl := (gw_of (i := 892) (by decide +kernel) (by decide +kernel))
theorem mth_ini : Cond.initialized "java/lang/Math" ∈ gtbl := (gw_of (i := 99) (by decide +kernel) (by decide +kernel))
theorem acp_nat : Cond.native arraycopyName ∈ gtbl := (gw_of (i := 599) (by decide +kernel) (by decide +kernel))
theorem acp_st : Cond.static arraycopyName ∈ gtbl := (gw_of (i := 598) (by decide +kernel) (by decide +kernel))
def nestL : List (String × Nat × MethodName × String) := [(RX9, 11, yX6_init, RX9), (RX9, 18, yX2_init, RX9), (RX3, 11, yX7_init, RX9), (RX5, 17, yX2_init, RX9), (RX9, 44, yX4_init, RX9), (RX6, 19, yX9_isOutside, RX9), (RX3, 100, yX9_isOutside, RX9), (RX1, 26, yX9_isOutside, RX9), (RX4, 25, yX9_isOutside, RX9), (RX0, 30, yX9_isOutside, RX9), (RX8, 71, yX9_isOutside, RX9)]
theorem nest_in : ∀ q ∈ nestL, Cond.methodLinkNest q.1 q.2.1 q.2.2.1 q.2.2.2 ∈ lw_tbl := by
  have h : nestL.map (fun q => Cond.methodLinkNest q.1 q.2.1 q.2.2.1 q.2.2.2) = [116, 130, 153, 209, 219, 442, 564, 683, 689, 767, 858].filterMap (fun i => lw_tbl[i]?) := by decide +kernel
  intro q hq
  have h1 : Cond.methodLinkNest q.1 q.2.1 q.2.2.1 q.2.2.2 ∈ nestL.map (fun q => Cond.methodLinkNest q.1 q.2.1 q.2.2.1 q.2.2.2) := List.mem_map.mpr ⟨q, hq, rfl⟩
  rw [h] at h1
  obtain ⟨i, -, hi⟩ := List.mem_filterMap.mp h1
  exact List.mem_of_getElem? hi
theorem nl_X9_11 : (RX9, 11, yX6_init, RX9) ∈ nestL := List.mem_of_getElem? (i := 0) rfl
theorem nl_X9_18 : (RX9, 18, yX2_init, RX9) ∈ nestL := List.mem_of_getElem? (i := 1) rfl
theorem nl_X3_11 : (RX3, 11, yX7_init, RX9) ∈ nestL := List.mem_of_getElem? (i := 2) rfl
theorem nl_X5_17 : (RX5, 17, yX2_init, RX9) ∈ nestL := List.mem_of_getElem? (i := 3) rfl
theorem nl_X9_44 : (RX9, 44, yX4_init, RX9) ∈ nestL := List.mem_of_getElem? (i := 4) rfl
theorem nl_X6_19 : (RX6, 19, yX9_isOutside, RX9) ∈ nestL := List.mem_of_getElem? (i := 5) rfl
theorem nl_X3_100 : (RX3, 100, yX9_isOutside, RX9) ∈ nestL := List.mem_of_getElem? (i := 6) rfl
theorem nl_X1_26 : (RX1, 26, yX9_isOutside, RX9) ∈ nestL := List.mem_of_getElem? (i := 7) rfl
theorem nl_X4_25 : (RX4, 25, yX9_isOutside, RX9) ∈ nestL := List.mem_of_getElem? (i := 8) rfl
theorem nl_X0_30 : (RX0, 30, yX9_isOutside, RX9) ∈ nestL := List.mem_of_getElem? (i := 9) rfl
theorem nl_X8_71 : (RX8, 71, yX9_isOutside, RX9) ∈ nestL := List.mem_of_getElem? (i := 10) rfl
/-- a field as an instruction of a class names it: the class's number, the field's place, final or not, its type -/
def FI (own : String) (idx ci k : Nat) (fin : Bool) (ty : FieldType) : Prop := ∃ (C : String) (T : u_T) (N : Nat), vwC[ci]? = some (C, T, N) ∧ k < N ∧ Cond.fieldLink own idx (T k).1 (T k).2.1 (T k).2.2.1 ∈ gtbl ∧ (T k).2.2.2 = fin ∧ parseFieldDescriptor (T k).2.2.1 = some ty ∧ (T k).1 = own
theorem fi_X6_9 : FI RX6 9 6 0 true (.array .byte) := ⟨RX6, TX6, 2, rfl, by decide, (gw_of (i := 120) (by decide +kernel) (by decide +kernel)), rfl, by decide +kernel, rfl⟩
theorem fi_X6_15 : FI RX6 15 6 1 false .int := ⟨RX6, TX6, 2, rfl, by decide, (gw_of (i := 121) (by decide +kernel) (by decide +kernel)), rfl, by decide +kernel, rfl⟩
theorem fi_X2_18 : FI RX2 18 2 0 false .int := ⟨RX2, TX2, 3, rfl, by decide, (gw_of (i := 134) (by decide +kernel) (by decide +kernel)), rfl, by decide +kernel, rfl⟩
theorem fi_X2_9 : FI RX2 9 2 1 true (.array .int) := ⟨RX2, TX2, 3, rfl, by decide, (gw_of (i := 135) (by decide +kernel) (by decide +kernel)), rfl, by decide +kernel, rfl⟩
theorem fi_X2_15 : FI RX2 15 2 2 true (.array .int) := ⟨RX2, TX2, 3, rfl, by decide, (gw_of (i := 136) (by decide +kernel) (by decide +kernel)), rfl, by decide +kernel, rfl⟩
theorem fi_X7_9 : FI RX7 9 7 0 true (.array .int) := ⟨RX7, TX7, 5, rfl, by decide, (gw_of (i := 157) (by decide +kernel) (by decide +kernel)), rfl, by decide +kernel, rfl⟩
theorem fi_X7_15 : FI RX7 15 7 1 true (.array .int) := ⟨RX7, TX7, 5, rfl, by decide, (gw_of (i := 158) (by decide +kernel) (by decide +kernel)), rfl, by decide +kernel, rfl⟩
theorem fi_X7_22 : FI RX7 22 7 2 false .int := ⟨RX7, TX7, 5, rfl, by decide, (gw_of (i := 159) (by decide +kernel) (by decide +kernel)), rfl, by decide +kernel, rfl⟩
theorem fi_X7_18 : FI RX7 18 7 3 false .int := ⟨RX7, TX7, 5, rfl, by decide, (gw_of (i := 160) (by decide +kernel) (by decide +kernel)), rfl, by decide +kernel, rfl⟩
theorem fi_X7_25 : FI RX7 25 7 4 false .int := ⟨RX7, TX7, 5, rfl, by decide, (gw_of (i := 161) (by decide +kernel) (by decide +kernel)), rfl, by decide +kernel, rfl⟩
theorem fi_X3_22 : FI RX3 22 3 0 true (.object "KeptInside$Text") := ⟨RX3, TX3, 9, rfl, by decide, (gw_of (i := 173) (by decide +kernel) (by decide +kernel)), rfl, by decide +kernel, rfl⟩
theorem fi_X3_26 : FI RX3 26 3 1 true (.object "KeptInside$Methods") := ⟨RX3, TX3, 9, rfl, by decide, (gw_of (i := 174) (by decide +kernel) (by decide +kernel)), rfl, by decide +kernel, rfl⟩
theorem fi_X3_12 : FI RX3 12 3 2 true (.object "KeptInside$Tokens") := ⟨RX3, TX3, 9, rfl, by decide, (gw_of (i := 175) (by decide +kernel) (by decide +kernel)), rfl, by decide +kernel, rfl⟩
theorem fi_X3_30 : FI RX3 30 3 3 false .int := ⟨RX3, TX3, 9, rfl, by decide, (gw_of (i := 176) (by decide +kernel) (by decide +kernel)), rfl, by decide +kernel, rfl⟩
theorem fi_X3_18 : FI RX3 18 3 4 true (.array .int) := ⟨RX3, TX3, 9, rfl, by decide, (gw_of (i := 177) (by decide +kernel) (by decide +kernel)), rfl, by decide +kernel, rfl⟩
theorem fi_X3_72 : FI RX3 72 3 5 false .int := ⟨RX3, TX3, 9, rfl, by decide, (gw_of (i := 178) (by decide +kernel) (by decide +kernel)), rfl, by decide +kernel, rfl⟩
theorem fi_X3_75 : FI RX3 75 3 6 false .int := ⟨RX3, TX3, 9, rfl, by decide, (gw_of (i := 179) (by decide +kernel) (by decide +kernel)), rfl, by decide +kernel, rfl⟩
theorem fi_X3_78 : FI RX3 78 3 7 false .int := ⟨RX3, TX3, 9, rfl, by decide, (gw_of (i := 180) (by decide +kernel) (by decide +kernel)), rfl, by decide +kernel, rfl⟩
theorem fi_X3_81 : FI RX3 81 3 8 false .int := ⟨RX3, TX3, 9, rfl, by decide, (gw_of (i := 181) (by decide +kernel) (by decide +kernel)), rfl, by decide +kernel, rfl⟩
theorem fi_X5_11 : FI RX5 11 5 0 true (.array (.object "KeptInside$Methods")) := ⟨RX5, TX5, 2, rfl, by decide, (gw_of (i := 210) (by decide +kernel) (by decide +kernel)), rfl, by decide +kernel, rfl⟩
theorem fi_X5_18 : FI RX5 18 5 1 false .int := ⟨RX5, TX5, 2, rfl, by decide, (gw_of (i := 211) (by decide +kernel) (by decide +kernel)), rfl, by decide +kernel, rfl⟩
theorem fi_X4_21 : FI RX4 21 4 0 false .int := ⟨RX4, TX4, 4, rfl, by decide, (gw_of (i := 223) (by decide +kernel) (by decide +kernel)), rfl, by decide +kernel, rfl⟩
theorem fi_X4_9 : FI RX4 9 4 1 true (.array .int) := ⟨RX4, TX4, 4, rfl, by decide, (gw_of (i := 224) (by decide +kernel) (by decide +kernel)), rfl, by decide +kernel, rfl⟩
theorem fi_X4_15 : FI RX4 15 4 2 true (.array .int) := ⟨RX4, TX4, 4, rfl, by decide, (gw_of (i := 225) (by decide +kernel) (by decide +kernel)), rfl, by decide +kernel, rfl⟩
theorem fi_X4_18 : FI RX4 18 4 3 true (.array .int) := ⟨RX4, TX4, 4, rfl, by decide, (gw_of (i := 226) (by decide +kernel) (by decide +kernel)), rfl, by decide +kernel, rfl⟩
theorem fi_X1_18 : FI RX1 18 1 0 true (.object "KeptInside$Methods") := ⟨RX1, TX1, 6, rfl, by decide, (gw_of (i := 242) (by decide +kernel) (by decide +kernel)), rfl, by decide +kernel, rfl⟩
theorem fi_X1_22 : FI RX1 22 1 1 true (.object "KeptInside$Sites") := ⟨RX1, TX1, 6, rfl, by decide, (gw_of (i := 243) (by decide +kernel) (by decide +kernel)), rfl, by decide +kernel, rfl⟩
theorem fi_X1_9 : FI RX1 9 1 2 true (.array .int) := ⟨RX1, TX1, 6, rfl, by decide, (gw_of (i := 244) (by decide +kernel) (by decide +kernel)), rfl, by decide +kernel, rfl⟩
theorem fi_X1_15 : FI RX1 15 1 3 true (.array .int) := ⟨RX1, TX1, 6, rfl, by decide, (gw_of (i := 245) (by decide +kernel) (by decide +kernel)), rfl, by decide +kernel, rfl⟩
theorem fi_X1_30 : FI RX1 30 1 4 false .int := ⟨RX1, TX1, 6, rfl, by decide, (gw_of (i := 246) (by decide +kernel) (by decide +kernel)), rfl, by decide +kernel, rfl⟩
theorem fi_X1_44 : FI RX1 44 1 5 false .boolean := ⟨RX1, TX1, 6, rfl, by decide, (gw_of (i := 247) (by decide +kernel) (by decide +kernel)), rfl, by decide +kernel, rfl⟩
theorem fi_X0_18 : FI RX0 18 0 0 true (.object "KeptInside$Methods") := ⟨RX0, TX0, 5, rfl, by decide, (gw_of (i := 267) (by decide +kernel) (by decide +kernel)), rfl, by decide +kernel, rfl⟩
theorem fi_X0_22 : FI RX0 22 0 1 true (.object "KeptInside$Sites") := ⟨RX0, TX0, 5, rfl, by decide, (gw_of (i := 268) (by decide +kernel) (by decide +kernel)), rfl, by decide +kernel, rfl⟩
theorem fi_X0_26 : FI RX0 26 0 2 true (.object "KeptInside$MaySets") := ⟨RX0, TX0, 5, rfl, by decide, (gw_of (i := 269) (by decide +kernel) (by decide +kernel)), rfl, by decide +kernel, rfl⟩
theorem fi_X0_9 : FI RX0 9 0 3 true (.array .int) := ⟨RX0, TX0, 5, rfl, by decide, (gw_of (i := 270) (by decide +kernel) (by decide +kernel)), rfl, by decide +kernel, rfl⟩
theorem fi_X0_15 : FI RX0 15 0 4 true (.array .int) := ⟨RX0, TX0, 5, rfl, by decide, (gw_of (i := 271) (by decide +kernel) (by decide +kernel)), rfl, by decide +kernel, rfl⟩
theorem fi_X8_40 : FI RX8 40 8 0 true (.object "KeptInside$Methods") := ⟨RX8, TX8, 18, rfl, by decide, (gw_of (i := 289) (by decide +kernel) (by decide +kernel)), rfl, by decide +kernel, rfl⟩
theorem fi_X8_44 : FI RX8 44 8 1 true (.object "KeptInside$Sites") := ⟨RX8, TX8, 18, rfl, by decide, (gw_of (i := 290) (by decide +kernel) (by decide +kernel)), rfl, by decide +kernel, rfl⟩
theorem fi_X8_48 : FI RX8 48 8 2 true (.object "KeptInside$Fates") := ⟨RX8, TX8, 18, rfl, by decide, (gw_of (i := 291) (by decide +kernel) (by decide +kernel)), rfl, by decide +kernel, rfl⟩
theorem fi_X8_9 : FI RX8 9 8 3 true (.array .int) := ⟨RX8, TX8, 18, rfl, by decide, (gw_of (i := 292) (by decide +kernel) (by decide +kernel)), rfl, by decide +kernel, rfl⟩
theorem fi_X8_15 : FI RX8 15 8 4 false .int := ⟨RX8, TX8, 18, rfl, by decide, (gw_of (i := 293) (by decide +kernel) (by decide +kernel)), rfl, by decide +kernel, rfl⟩
theorem fi_X8_19 : FI RX8 19 8 5 false (.array .int) := ⟨RX8, TX8, 18, rfl, by decide, (gw_of (i := 294) (by decide +kernel) (by decide +kernel)), rfl, by decide +kernel, rfl⟩
theorem fi_X8_22 : FI RX8 22 8 6 false (.array .int) := ⟨RX8, TX8, 18, rfl, by decide, (gw_of (i := 295) (by decide +kernel) (by decide +kernel)), rfl, by decide +kernel, rfl⟩
theorem fi_X8_25 : FI RX8 25 8 7 false (.array .int) := ⟨RX8, TX8, 18, rfl, by decide, (gw_of (i := 296) (by decide +kernel) (by decide +kernel)), rfl, by decide +kernel, rfl⟩
theorem fi_X8_28 : FI RX8 28 8 8 false (.array .int) := ⟨RX8, TX8, 18, rfl, by decide, (gw_of (i := 297) (by decide +kernel) (by decide +kernel)), rfl, by decide +kernel, rfl⟩
theorem fi_X8_52 : FI RX8 52 8 9 false .boolean := ⟨RX8, TX8, 18, rfl, by decide, (gw_of (i := 298) (by decide +kernel) (by decide +kernel)), rfl, by decide +kernel, rfl⟩
theorem fi_X8_56 : FI RX8 56 8 10 false .int := ⟨RX8, TX8, 18, rfl, by decide, (gw_of (i := 299) (by decide +kernel) (by decide +kernel)), rfl, by decide +kernel, rfl⟩
theorem fi_X8_59 : FI RX8 59 8 11 false .int := ⟨RX8, TX8, 18, rfl, by decide, (gw_of (i := 300) (by decide +kernel) (by decide +kernel)), rfl, by decide +kernel, rfl⟩
theorem fi_X8_62 : FI RX8 62 8 12 false .int := ⟨RX8, TX8, 18, rfl, by decide, (gw_of (i := 301) (by decide +kernel) (by decide +kernel)), rfl, by decide +kernel, rfl⟩
theorem fi_X8_65 : FI RX8 65 8 13 false .int := ⟨RX8, TX8, 18, rfl, by decide, (gw_of (i := 302) (by decide +kernel) (by decide +kernel)), rfl, by decide +kernel, rfl⟩
theorem fi_X8_68 : FI RX8 68 8 14 false .int := ⟨RX8, TX8, 18, rfl, by decide, (gw_of (i := 303) (by decide +kernel) (by decide +kernel)), rfl, by decide +kernel, rfl⟩
theorem fi_X8_31 : FI RX8 31 8 15 true (.array .int) := ⟨RX8, TX8, 18, rfl, by decide, (gw_of (i := 304) (by decide +kernel) (by decide +kernel)), rfl, by decide +kernel, rfl⟩
theorem fi_X8_34 : FI RX8 34 8 16 true (.array .int) := ⟨RX8, TX8, 18, rfl, by decide, (gw_of (i := 305) (by decide +kernel) (by decide +kernel)), rfl, by decide +kernel, rfl⟩
theorem fi_X8_37 : FI RX8 37 8 17 true (.array .int) := ⟨RX8, TX8, 18, rfl, by decide, (gw_of (i := 306) (by decide +kernel) (by decide +kernel)), rfl, by decide +kernel, rfl⟩
theorem fi_X9_12 : FI RX9 12 9 0 true (.object "KeptInside$Text") := ⟨RX9, TX9, 14, rfl, by decide, (gw_of (i := 344) (by decide +kernel) (by decide +kernel)), rfl, by decide +kernel, rfl⟩
theorem fi_X9_19 : FI RX9 19 9 1 true (.object "KeptInside$Methods") := ⟨RX9, TX9, 14, rfl, by decide, (gw_of (i := 345) (by decide +kernel) (by decide +kernel)), rfl, by decide +kernel, rfl⟩
theorem fi_X9_23 : FI RX9 23 9 2 true (.object "KeptInside$Methods") := ⟨RX9, TX9, 14, rfl, by decide, (gw_of (i := 346) (by decide +kernel) (by decide +kernel)), rfl, by decide +kernel, rfl⟩
theorem fi_X9_31 : FI RX9 31 9 3 true (.object "KeptInside$Reader") := ⟨RX9, TX9, 14, rfl, by decide, (gw_of (i := 347) (by decide +kernel) (by decide +kernel)), rfl, by decide +kernel, rfl⟩
theorem fi_X9_38 : FI RX9 38 9 4 true (.object "KeptInside$States") := ⟨RX9, TX9, 14, rfl, by decide, (gw_of (i := 348) (by decide +kernel) (by decide +kernel)), rfl, by decide +kernel, rfl⟩
theorem fi_X9_45 : FI RX9 45 9 5 true (.object "KeptInside$Sites") := ⟨RX9, TX9, 14, rfl, by decide, (gw_of (i := 349) (by decide +kernel) (by decide +kernel)), rfl, by decide +kernel, rfl⟩
theorem fi_X9_54 : FI RX9 54 9 6 true (.object "KeptInside$MaySets") := ⟨RX9, TX9, 14, rfl, by decide, (gw_of (i := 350) (by decide +kernel) (by decide +kernel)), rfl, by decide +kernel, rfl⟩
theorem fi_X9_63 : FI RX9 63 9 7 true (.object "KeptInside$Fates") := ⟨RX9, TX9, 14, rfl, by decide, (gw_of (i := 351) (by decide +kernel) (by decide +kernel)), rfl, by decide +kernel, rfl⟩
theorem fi_X9_72 : FI RX9 72 9 8 true (.object "KeptInside$Trial") := ⟨RX9, TX9, 14, rfl, by decide, (gw_of (i := 352) (by decide +kernel) (by decide +kernel)), rfl, by decide +kernel, rfl⟩
theorem fi_X9_262 : FI RX9 262 9 9 false .int := ⟨RX9, TX9, 14, rfl, by decide, (gw_of (i := 353) (by decide +kernel) (by decide +kernel)), rfl, by decide +kernel, rfl⟩
theorem fi_X9_266 : FI RX9 266 9 10 false .int := ⟨RX9, TX9, 14, rfl, by decide, (gw_of (i := 354) (by decide +kernel) (by decide +kernel)), rfl, by decide +kernel, rfl⟩
theorem fi_X9_269 : FI RX9 269 9 11 false .int := ⟨RX9, TX9, 14, rfl, by decide, (gw_of (i := 355) (by decide +kernel) (by decide +kernel)), rfl, by decide +kernel, rfl⟩
theorem fi_X9_275 : FI RX9 275 9 12 false .boolean := ⟨RX9, TX9, 14, rfl, by decide, (gw_of (i := 356) (by decide +kernel) (by decide +kernel)), rfl, by decide +kernel, rfl⟩
theorem fi_X9_279 : FI RX9 279 9 13 false .boolean := ⟨RX9, TX9, 14, rfl, by decide, (gw_of (i := 357) (by decide +kernel) (by decide +kernel)), rfl, by decide +kernel, rfl⟩
theorem fi_X10_7 : FI RX10 7 10 0 true (.array .int) := ⟨RX10, TX10, 45, rfl, by decide, (gw_of (i := 1025) (by decide +kernel) (by decide +kernel)), rfl, by decide +kernel, rfl⟩
theorem fi_X10_13 : FI RX10 13 10 1 true (.array .int) := ⟨RX10, TX10, 45, rfl, by decide, (gw_of (i := 1026) (by decide +kernel) (by decide +kernel)), rfl, by decide +kernel, rfl⟩
theorem fi_X10_16 : FI RX10 16 10 2 true (.array .int) := ⟨RX10, TX10, 45, rfl, by decide, (gw_of (i := 1027) (by decide +kernel) (by decide +kernel)), rfl, by decide +kernel, rfl⟩
theorem fi_X10_85 : FI RX10 85 10 3 false .int := ⟨RX10, TX10, 45, rfl, by decide, (gw_of (i := 1028) (by decide +kernel) (by decide +kernel)), rfl, by decide +kernel, rfl⟩
theorem fi_X10_19 : FI RX10 19 10 4 true (.array .int) := ⟨RX10, TX10, 45, rfl, by decide, (gw_of (i := 1029) (by decide +kernel) (by decide +kernel)), rfl, by decide +kernel, rfl⟩
theorem fi_X10_22 : FI RX10 22 10 5 true (.array .int) := ⟨RX10, TX10, 45, rfl, by decide, (gw_of (i := 1030) (by decide +kernel) (by decide +kernel)), rfl, by decide +kernel, rfl⟩
theorem fi_X10_96 : FI RX10 96 10 6 false .int := ⟨RX10, TX10, 45, rfl, by decide, (gw_of (i := 1031) (by decide +kernel) (by decide +kernel)), rfl, by decide +kernel, rfl⟩
theorem fi_X10_93 : FI RX10 93 10 7 false .int := ⟨RX10, TX10, 45, rfl, by decide, (gw_of (i := 1032) (by decide +kernel) (by decide +kernel)), rfl, by decide +kernel, rfl⟩
theorem fi_X10_106 : FI RX10 106 10 8 false .int := ⟨RX10, TX10, 45, rfl, by decide, (gw_of (i := 1033) (by decide +kernel) (by decide +kernel)), rfl, by decide +kernel, rfl⟩
theorem fi_X10_103 : FI RX10 103 10 9 false .int := ⟨RX10, TX10, 45, rfl, by decide, (gw_of (i := 1034) (by decide +kernel) (by decide +kernel)), rfl, by decide +kernel, rfl⟩
theorem fi_X10_25 : FI RX10 25 10 10 true (.array .int) := ⟨RX10, TX10, 45, rfl, by decide, (gw_of (i := 1035) (by decide +kernel) (by decide +kernel)), rfl, by decide +kernel, rfl⟩
theorem fi_X10_28 : FI RX10 28 10 11 true (.array .int) := ⟨RX10, TX10, 45, rfl, by decide, (gw_of (i := 1036) (by decide +kernel) (by decide +kernel)), rfl, by decide +kernel, rfl⟩
theorem fi_X10_133 : FI RX10 133 10 12 false .int := ⟨RX10, TX10, 45, rfl, by decide, (gw_of (i := 1037) (by decide +kernel) (by decide +kernel)), rfl, by decide +kernel, rfl⟩
theorem fi_X10_127 : FI RX10 127 10 13 false .int := ⟨RX10, TX10, 45, rfl, by decide, (gw_of (i := 1038) (by decide +kernel) (by decide +kernel)), rfl, by decide +kernel, rfl⟩
theorem fi_X10_144 : FI RX10 144 10 14 false .int := ⟨RX10, TX10, 45, rfl, by decide, (gw_of (i := 1039) (by decide +kernel) (by decide +kernel)), rfl, by decide +kernel, rfl⟩
theorem fi_X10_124 : FI RX10 124 10 15 false .int := ⟨RX10, TX10, 45, rfl, by decide, (gw_of (i := 1040) (by decide +kernel) (by decide +kernel)), rfl, by decide +kernel, rfl⟩
theorem fi_X10_130 : FI RX10 130 10 16 false .int := ⟨RX10, TX10, 45, rfl, by decide, (gw_of (i := 1041) (by decide +kernel) (by decide +kernel)), rfl, by decide +kernel, rfl⟩
theorem fi_X10_31 : FI RX10 31 10 17 true (.array .int) := ⟨RX10, TX10, 45, rfl, by decide, (gw_of (i := 1042) (by decide +kernel) (by decide +kernel)), rfl, by decide +kernel, rfl⟩
theorem fi_X10_34 : FI RX10 34 10 18 true (.array .int) := ⟨RX10, TX10, 45, rfl, by decide, (gw_of (i := 1043) (by decide +kernel) (by decide +kernel)), rfl, by decide +kernel, rfl⟩
theorem fi_X10_37 : FI RX10 37 10 19 true (.array .int) := ⟨RX10, TX10, 45, rfl, by decide, (gw_of (i := 1044) (by decide +kernel) (by decide +kernel)), rfl, by decide +kernel, rfl⟩
theorem fi_X10_175 : FI RX10 175 10 20 false .int := ⟨RX10, TX10, 45, rfl, by decide, (gw_of (i := 1045) (by decide +kernel) (by decide +kernel)), rfl, by decide +kernel, rfl⟩
theorem fi_X10_40 : FI RX10 40 10 21 true (.array .int) := ⟨RX10, TX10, 45, rfl, by decide, (gw_of (i := 1046) (by decide +kernel) (by decide +kernel)), rfl, by decide +kernel, rfl⟩
theorem fi_X10_182 : FI RX10 182 10 22 false .boolean := ⟨RX10, TX10, 45, rfl, by decide, (gw_of (i := 1047) (by decide +kernel) (by decide +kernel)), rfl, by decide +kernel, rfl⟩
theorem fi_X10_43 : FI RX10 43 10 23 true (.array .int) := ⟨RX10, TX10, 45, rfl, by decide, (gw_of (i := 1048) (by decide +kernel) (by decide +kernel)), rfl, by decide +kernel, rfl⟩
theorem fi_X10_46 : FI RX10 46 10 24 true (.array .int) := ⟨RX10, TX10, 45, rfl, by decide, (gw_of (i := 1049) (by decide +kernel) (by decide +kernel)), rfl, by decide +kernel, rfl⟩
theorem fi_X10_49 : FI RX10 49 10 25 true (.array .int) := ⟨RX10, TX10, 45, rfl, by decide, (gw_of (i := 1050) (by decide +kernel) (by decide +kernel)), rfl, by decide +kernel, rfl⟩
theorem fi_X10_52 : FI RX10 52 10 26 true (.array .int) := ⟨RX10, TX10, 45, rfl, by decide, (gw_of (i := 1051) (by decide +kernel) (by decide +kernel)), rfl, by decide +kernel, rfl⟩
theorem fi_X10_236 : FI RX10 236 10 27 false .int := ⟨RX10, TX10, 45, rfl, by decide, (gw_of (i := 1052) (by decide +kernel) (by decide +kernel)), rfl, by decide +kernel, rfl⟩
theorem fi_X10_239 : FI RX10 239 10 28 false .int := ⟨RX10, TX10, 45, rfl, by decide, (gw_of (i := 1053) (by decide +kernel) (by decide +kernel)), rfl, by decide +kernel, rfl⟩
theorem fi_X10_55 : FI RX10 55 10 29 true (.array .int) := ⟨RX10, TX10, 45, rfl, by decide, (gw_of (i := 1054) (by decide +kernel) (by decide +kernel)), rfl, by decide +kernel, rfl⟩
theorem fi_X10_58 : FI RX10 58 10 30 true (.array .int) := ⟨RX10, TX10, 45, rfl, by decide, (gw_of (i := 1055) (by decide +kernel) (by decide +kernel)), rfl, by decide +kernel, rfl⟩
theorem fi_X10_61 : FI RX10 61 10 31 true (.array .int) := ⟨RX10, TX10, 45, rfl, by decide, (gw_of (i := 1056) (by decide +kernel) (by decide +kernel)), rfl, by decide +kernel, rfl⟩
theorem fi_X10_64 : FI RX10 64 10 32 true (.array .int) := ⟨RX10, TX10, 45, rfl, by decide, (gw_of (i := 1057) (by decide +kernel) (by decide +kernel)), rfl, by decide +kernel, rfl⟩
theorem fi_X10_67 : FI RX10 67 10 33 true (.array .int) := ⟨RX10, TX10, 45, rfl, by decide, (gw_of (i := 1058) (by decide +kernel) (by decide +kernel)), rfl, by decide +kernel, rfl⟩
theorem fi_X10_70 : FI RX10 70 10 34 true (.array .int) := ⟨RX10, TX10, 45, rfl, by decide, (gw_of (i := 1059) (by decide +kernel) (by decide +kernel)), rfl, by decide +kernel, rfl⟩
theorem fi_X10_230 : FI RX10 230 10 35 false .int := ⟨RX10, TX10, 45, rfl, by decide, (gw_of (i := 1060) (by decide +kernel) (by decide +kernel)), rfl, by decide +kernel, rfl⟩
theorem fi_X10_257 : FI RX10 257 10 36 false .boolean := ⟨RX10, TX10, 45, rfl, by decide, (gw_of (i := 1061) (by decide +kernel) (by decide +kernel)), rfl, by decide +kernel, rfl⟩
theorem fi_X10_248 : FI RX10 248 10 37 false .int := ⟨RX10, TX10, 45, rfl, by decide, (gw_of (i := 1062) (by decide +kernel) (by decide +kernel)), rfl, by decide +kernel, rfl⟩
theorem fi_X10_251 : FI RX10 251 10 38 false .int := ⟨RX10, TX10, 45, rfl, by decide, (gw_of (i := 1063) (by decide +kernel) (by decide +kernel)), rfl, by decide +kernel, rfl⟩
theorem fi_X10_233 : FI RX10 233 10 39 false .int := ⟨RX10, TX10, 45, rfl, by decide, (gw_of (i := 1064) (by decide +kernel) (by decide +kernel)), rfl, by decide +kernel, rfl⟩
theorem fi_X10_245 : FI RX10 245 10 40 false .int := ⟨RX10, TX10, 45, rfl, by decide, (gw_of (i := 1065) (by decide +kernel) (by decide +kernel)), rfl, by decide +kernel, rfl⟩
theorem fi_X10_73 : FI RX10 73 10 41 true (.array .int) := ⟨RX10, TX10, 45, rfl, by decide, (gw_of (i := 1066) (by decide +kernel) (by decide +kernel)), rfl, by decide +kernel, rfl⟩
theorem fi_X10_76 : FI RX10 76 10 42 true (.array .int) := ⟨RX10, TX10, 45, rfl, by decide, (gw_of (i := 1067) (by decide +kernel) (by decide +kernel)), rfl, by decide +kernel, rfl⟩
theorem fi_X10_79 : FI RX10 79 10 43 true (.array .int) := ⟨RX10, TX10, 45, rfl, by decide, (gw_of (i := 1068) (by decide +kernel) (by decide +kernel)), rfl, by decide +kernel, rfl⟩
theorem fi_X10_82 : FI RX10 82 10 44 true (.array .int) := ⟨RX10, TX10, 45, rfl, by decide, (gw_of (i := 1069) (by decide +kernel) (by decide +kernel)), rfl, by decide +kernel, rfl⟩
end
section
theorem dX0_init_0 : decode mX0_init.2.1 0 = .ok (.aload_n 0, 1) := by decide +kernel
theorem dX0_init_1 : decode mX0_init.2.1 1 = .ok (.invokespecial 3, 3) := by decide +kernel
theorem dX0_init_4 : decode mX0_init.2.1 4 = .ok (.aload_n 0, 1) := by decide +kernel
theorem dX0_init_5 : decode mX0_init.2.1 5 = .ok (.bipush 32, 2) := by decide +kernel
theorem dX0_init_7 : decode mX0_init.2.1 7 = .ok (.newarray .int, 2) := by decide +kernel
theorem dX0_init_9 : decode mX0_init.2.1 9 = .ok (.putfield 9, 3) := by decide +kernel
theorem dX0_init_12 : decode mX0_init.2.1 12 = .ok (.aload_n 0, 1) := by decide +kernel
theorem dX0_init_13 : decode mX0_init.2.1 13 = .ok (.iconst 4, 1) := by decide +kernel
theorem dX0_init_14 : decode mX0_init.2.1 14 = .ok (.newarray .int, 2) := by decide +kernel
theorem dX0_init_16 : decode mX0_init.2.1 16 = .ok (.putfield 15, 3) := by decide +kernel
theorem dX0_init_19 : decode mX0_init.2.1 19 = .ok (.aload_n 0, 1) := by decide +kernel
theorem dX0_init_20 : decode mX0_init.2.1 20 = .ok (.aload_n 1, 1) := by decide +kernel
theorem dX0_init_21 : decode mX0_init.2.1 21 = .ok (.putfield 18, 3) := by decide +kernel
theorem dX0_init_24 : decode mX0_init.2.1 24 = .ok (.aload_n 0, 1) := by decide +kernel
theorem dX0_init_25 : decode mX0_init.2.1 25 = .ok (.aload_n 2, 1) := by decide +kernel
theorem dX0_init_26 : decode mX0_init.2.1 26 = .ok (.putfield 22, 3) := by decide +kernel
theorem dX0_init_29 : decode mX0_init.2.1 29 = .ok (.aload_n 0, 1) := by decide +kernel
theorem dX0_init_30 : decode mX0_init.2.1 30 = .ok (.aload_n 3, 1) := by decide +kernel
theorem dX0_init_31 : decode mX0_init.2.1 31 = .ok (.putfield 26, 3) := by decide +kernel
theorem dX0_init_34 : decode mX0_init.2.1 34 = .ok (.return_, 1) := by decide +kernel
theorem dX0_ofSite_0 : decode mX0_ofSite.2.1 0 = .ok (.iload_n 1, 1) := by decide +kernel
theorem dX0_ofSite_1 : decode mX0_ofSite.2.1 1 = .ok (.bipush 32, 2) := by decide +kernel
theorem dX0_ofSite_3 : decode mX0_ofSite.2.1 3 = .ok (.invokestatic 30, 3) := by decide +kernel
theorem dX0_ofSite_6 : decode mX0_ofSite.2.1 6 = .ok (.ifCond .eq 7, 3) := by decide +kernel
theorem dX0_ofSite_9 : decode mX0_ofSite.2.1 9 = .ok (.iconst 0, 1) := by decide +kernel
theorem dX0_ofSite_10 : decode mX0_ofSite.2.1 10 = .ok (.goto 9, 3) := by decide +kernel
theorem dX0_ofSite_13 : decode mX0_ofSite.2.1 13 = .ok (.aload_n 0, 1) := by decide +kernel
theorem dX0_ofSite_14 : decode mX0_ofSite.2.1 14 = .ok (.getfield 9, 3) := by decide +kernel
theorem dX0_ofSite_17 : decode mX0_ofSite.2.1 17 = .ok (.iload_n 1, 1) := by decide +kernel
theorem dX0_ofSite_18 : decode mX0_ofSite.2.1 18 = .ok (.iaload, 1) := by decide +kernel
theorem dX0_ofSite_19 : decode mX0_ofSite.2.1 19 = .ok (.ireturn, 1) := by decide +kernel
theorem dX0_idleLines_0 : decode mX0_idleLines.2.1 0 = .ok (.iload_n 1, 1) := by decide +kernel
theorem dX0_idleLines_1 : decode mX0_idleLines.2.1 1 = .ok (.iconst 4, 1) := by decide +kernel
theorem dX0_idleLines_2 : decode mX0_idleLines.2.1 2 = .ok (.invokestatic 30, 3) := by decide +kernel
theorem dX0_idleLines_5 : decode mX0_idleLines.2.1 5 = .ok (.ifCond .eq 7, 3) := by decide +kernel
theorem dX0_idleLines_8 : decode mX0_idleLines.2.1 8 = .ok (.iconst 0, 1) := by decide +kernel
theorem dX0_idleLines_9 : decode mX0_idleLines.2.1 9 = .ok (.goto 9, 3) := by decide +kernel
theorem dX0_idleLines_12 : decode mX0_idleLines.2.1 12 = .ok (.aload_n 0, 1) := by decide +kernel
theorem dX0_idleLines_13 : decode mX0_idleLines.2.1 13 = .ok (.getfield 15, 3) := by decide +kernel
theorem dX0_idleLines_16 : decode mX0_idleLines.2.1 16 = .ok (.iload_n 1, 1) := by decide +kernel
theorem dX0_idleLines_17 : decode mX0_idleLines.2.1 17 = .ok (.iaload, 1) := by decide +kernel
theorem dX0_idleLines_18 : decode mX0_idleLines.2.1 18 = .ok (.ireturn, 1) := by decide +kernel
theorem dX0_countOf_0 : decode mX0_countOf.2.1 0 = .ok (.iconst 0, 1) := by decide +kernel
theorem dX0_countOf_1 : decode mX0_countOf.2.1 1 = .ok (.istore_n 2, 1) := by decide +kernel
theorem dX0_countOf_2 : decode mX0_countOf.2.1 2 = .ok (.iconst 0, 1) := by decide +kernel
theorem dX0_countOf_3 : decode mX0_countOf.2.1 3 = .ok (.istore_n 3, 1) := by decide +kernel
theorem dX0_countOf_4 : decode mX0_countOf.2.1 4 = .ok (.iload_n 3, 1) := by decide +kernel
theorem dX0_countOf_5 : decode mX0_countOf.2.1 5 = .ok (.aload_n 0, 1) := by decide +kernel
theorem dX0_countOf_6 : decode mX0_countOf.2.1 6 = .ok (.getfield 22, 3) := by decide +kernel
theorem dX0_countOf_9 : decode mX0_countOf.2.1 9 = .ok (.invokevirtual 34, 3) := by decide +kernel
theorem dX0_countOf_12 : decode mX0_countOf.2.1 12 = .ok (.if_icmp .ge 22, 3) := by decide +kernel
theorem dX0_countOf_15 : decode mX0_countOf.2.1 15 = .ok (.aload_n 0, 1) := by decide +kernel
theorem dX0_countOf_16 : decode mX0_countOf.2.1 16 = .ok (.getfield 9, 3) := by decide +kernel
theorem dX0_countOf_19 : decode mX0_countOf.2.1 19 = .ok (.iload_n 3, 1) := by decide +kernel
theorem dX0_countOf_20 : decode mX0_countOf.2.1 20 = .ok (.iaload, 1) := by decide +kernel
theorem dX0_countOf_21 : decode mX0_countOf.2.1 21 = .ok (.iload_n 1, 1) := by decide +kernel
theorem dX0_countOf_22 : decode mX0_countOf.2.1 22 = .ok (.if_icmp .ne 6, 3) := by decide +kernel
theorem dX0_countOf_25 : decode mX0_countOf.2.1 25 = .ok (.iinc 2 1, 3) := by decide +kernel
theorem dX0_countOf_28 : decode mX0_countOf.2.1 28 = .ok (.iinc 3 1, 3) := by decide +kernel
theorem dX0_countOf_31 : decode mX0_countOf.2.1 31 = .ok (.goto (-27), 3) := by decide +kernel
theorem dX0_countOf_34 : decode mX0_countOf.2.1 34 = .ok (.iload_n 2, 1) := by decide +kernel
theorem dX0_countOf_35 : decode mX0_countOf.2.1 35 = .ok (.ireturn, 1) := by decide +kernel
theorem dX0_keptIn_0 : decode mX0_keptIn.2.1 0 = .ok (.iconst 0, 1) := by decide +kernel
theorem dX0_keptIn_1 : decode mX0_keptIn.2.1 1 = .ok (.istore_n 2, 1) := by decide +kernel
theorem dX0_keptIn_2 : decode mX0_keptIn.2.1 2 = .ok (.iconst 0, 1) := by decide +kernel
theorem dX0_keptIn_3 : decode mX0_keptIn.2.1 3 = .ok (.istore_n 3, 1) := by decide +kernel
theorem dX0_keptIn_4 : decode mX0_keptIn.2.1 4 = .ok (.iload_n 3, 1) := by decide +kernel
theorem dX0_keptIn_5 : decode mX0_keptIn.2.1 5 = .ok (.aload_n 0, 1) := by decide +kernel
theorem dX0_keptIn_6 : decode mX0_keptIn.2.1 6 = .ok (.getfield 22, 3) := by decide +kernel
theorem dX0_keptIn_9 : decode mX0_keptIn.2.1 9 = .ok (.invokevirtual 34, 3) := by decide +kernel
theorem dX0_keptIn_12 : decode mX0_keptIn.2.1 12 = .ok (.if_icmp .ge 33, 3) := by decide +kernel
theorem dX0_keptIn_15 : decode mX0_keptIn.2.1 15 = .ok (.aload_n 0, 1) := by decide +kernel
theorem dX0_keptIn_16 : decode mX0_keptIn.2.1 16 = .ok (.getfield 22, 3) := by decide +kernel
theorem dX0_keptIn_19 : decode mX0_keptIn.2.1 19 = .ok (.iload_n 3, 1) := by decide +kernel
theorem dX0_keptIn_20 : decode mX0_keptIn.2.1 20 = .ok (.invokevirtual 40, 3) := by decide +kernel
theorem dX0_keptIn_23 : decode mX0_keptIn.2.1 23 = .ok (.iload_n 1, 1) := by decide +kernel
theorem dX0_keptIn_24 : decode mX0_keptIn.2.1 24 = .ok (.if_icmp .ne 15, 3) := by decide +kernel
theorem dX0_keptIn_27 : decode mX0_keptIn.2.1 27 = .ok (.aload_n 0, 1) := by decide +kernel
theorem dX0_keptIn_28 : decode mX0_keptIn.2.1 28 = .ok (.getfield 9, 3) := by decide +kernel
theorem dX0_keptIn_31 : decode mX0_keptIn.2.1 31 = .ok (.iload_n 3, 1) := by decide +kernel
theorem dX0_keptIn_32 : decode mX0_keptIn.2.1 32 = .ok (.iaload, 1) := by decide +kernel
theorem dX0_keptIn_33 : decode mX0_keptIn.2.1 33 = .ok (.ifCond .ne 6, 3) := by decide +kernel
theorem dX0_keptIn_36 : decode mX0_keptIn.2.1 36 = .ok (.iinc 2 1, 3) := by decide +kernel
theorem dX0_keptIn_39 : decode mX0_keptIn.2.1 39 = .ok (.iinc 3 1, 3) := by decide +kernel
theorem dX0_keptIn_42 : decode mX0_keptIn.2.1 42 = .ok (.goto (-38), 3) := by decide +kernel
theorem dX0_keptIn_45 : decode mX0_keptIn.2.1 45 = .ok (.iload_n 2, 1) := by decide +kernel
theorem dX0_keptIn_46 : decode mX0_keptIn.2.1 46 = .ok (.ireturn, 1) := by decide +kernel
theorem dX0_find_0 : decode mX0_find.2.1 0 = .ok (.aload_n 0, 1) := by decide +kernel
theorem dX0_find_1 : decode mX0_find.2.1 1 = .ok (.getfield 26, 3) := by decide +kernel
theorem dX0_find_4 : decode mX0_find.2.1 4 = .ok (.aload_n 0, 1) := by decide +kernel
theorem dX0_find_5 : decode mX0_find.2.1 5 = .ok (.getfield 26, 3) := by decide +kernel
theorem dX0_find_8 : decode mX0_find.2.1 8 = .ok (.invokevirtual 44, 3) := by decide +kernel
theorem dX0_find_11 : decode mX0_find.2.1 11 = .ok (.invokevirtual 49, 3) := by decide +kernel
theorem dX0_find_14 : decode mX0_find.2.1 14 = .ok (.istore_n 1, 1) := by decide +kernel
theorem dX0_find_15 : decode mX0_find.2.1 15 = .ok (.iconst 0, 1) := by decide +kernel
theorem dX0_find_16 : decode mX0_find.2.1 16 = .ok (.istore_n 2, 1) := by decide +kernel
theorem dX0_find_17 : decode mX0_find.2.1 17 = .ok (.iload_n 2, 1) := by decide +kernel
theorem dX0_find_18 : decode mX0_find.2.1 18 = .ok (.aload_n 0, 1) := by decide +kernel
theorem dX0_find_19 : decode mX0_find.2.1 19 = .ok (.getfield 18, 3) := by decide +kernel
theorem dX0_find_22 : decode mX0_find.2.1 22 = .ok (.invokevirtual 52, 3) := by decide +kernel
theorem dX0_find_25 : decode mX0_find.2.1 25 = .ok (.if_icmp .ge 43, 3) := by decide +kernel
theorem dX0_find_28 : decode mX0_find.2.1 28 = .ok (.aload_n 0, 1) := by decide +kernel
theorem dX0_find_29 : decode mX0_find.2.1 29 = .ok (.getfield 26, 3) := by decide +kernel
theorem dX0_find_32 : decode mX0_find.2.1 32 = .ok (.aload_n 0, 1) := by decide +kernel
theorem dX0_find_33 : decode mX0_find.2.1 33 = .ok (.getfield 26, 3) := by decide +kernel
theorem dX0_find_36 : decode mX0_find.2.1 36 = .ok (.iload_n 2, 1) := by decide +kernel
theorem dX0_find_37 : decode mX0_find.2.1 37 = .ok (.iconst 0, 1) := by decide +kernel
theorem dX0_find_38 : decode mX0_find.2.1 38 = .ok (.invokevirtual 55, 3) := by decide +kernel
theorem dX0_find_41 : decode mX0_find.2.1 41 = .ok (.aload_n 0, 1) := by decide +kernel
theorem dX0_find_42 : decode mX0_find.2.1 42 = .ok (.getfield 26, 3) := by decide +kernel
theorem dX0_find_45 : decode mX0_find.2.1 45 = .ok (.iload_n 2, 1) := by decide +kernel
theorem dX0_find_46 : decode mX0_find.2.1 46 = .ok (.iconst 3, 1) := by decide +kernel
theorem dX0_find_47 : decode mX0_find.2.1 47 = .ok (.invokevirtual 55, 3) := by decide +kernel
theorem dX0_find_50 : decode mX0_find.2.1 50 = .ok (.ior, 1) := by decide +kernel
theorem dX0_find_51 : decode mX0_find.2.1 51 = .ok (.invokevirtual 49, 3) := by decide +kernel
theorem dX0_find_54 : decode mX0_find.2.1 54 = .ok (.istore_n 3, 1) := by decide +kernel
theorem dX0_find_55 : decode mX0_find.2.1 55 = .ok (.aload_n 0, 1) := by decide +kernel
theorem dX0_find_56 : decode mX0_find.2.1 56 = .ok (.iload_n 2, 1) := by decide +kernel
theorem dX0_find_57 : decode mX0_find.2.1 57 = .ok (.iload_n 1, 1) := by decide +kernel
theorem dX0_find_58 : decode mX0_find.2.1 58 = .ok (.iload_n 3, 1) := by decide +kernel
theorem dX0_find_59 : decode mX0_find.2.1 59 = .ok (.invokevirtual 59, 3) := by decide +kernel
theorem dX0_find_62 : decode mX0_find.2.1 62 = .ok (.iinc 2 1, 3) := by decide +kernel
theorem dX0_find_65 : decode mX0_find.2.1 65 = .ok (.goto (-48), 3) := by decide +kernel
theorem dX0_find_68 : decode mX0_find.2.1 68 = .ok (.aload_n 0, 1) := by decide +kernel
theorem dX0_find_69 : decode mX0_find.2.1 69 = .ok (.invokevirtual 63, 3) := by decide +kernel
theorem dX0_find_72 : decode mX0_find.2.1 72 = .ok (.istore_n 2, 1) := by decide +kernel
theorem dX0_find_73 : decode mX0_find.2.1 73 = .ok (.iconst 0, 1) := by decide +kernel
theorem dX0_find_74 : decode mX0_find.2.1 74 = .ok (.istore_n 3, 1) := by decide +kernel
theorem dX0_find_75 : decode mX0_find.2.1 75 = .ok (.iload_n 3, 1) := by decide +kernel
theorem dX0_find_76 : decode mX0_find.2.1 76 = .ok (.aload_n 0, 1) := by decide +kernel
theorem dX0_find_77 : decode mX0_find.2.1 77 = .ok (.getfield 18, 3) := by decide +kernel
theorem dX0_find_80 : decode mX0_find.2.1 80 = .ok (.invokevirtual 52, 3) := by decide +kernel
theorem dX0_find_83 : decode mX0_find.2.1 83 = .ok (.if_icmp .ge 21, 3) := by decide +kernel
theorem dX0_find_86 : decode mX0_find.2.1 86 = .ok (.aload_n 0, 1) := by decide +kernel
theorem dX0_find_87 : decode mX0_find.2.1 87 = .ok (.getfield 15, 3) := by decide +kernel
theorem dX0_find_90 : decode mX0_find.2.1 90 = .ok (.iload_n 3, 1) := by decide +kernel
theorem dX0_find_91 : decode mX0_find.2.1 91 = .ok (.aload_n 0, 1) := by decide +kernel
theorem dX0_find_92 : decode mX0_find.2.1 92 = .ok (.iload_n 3, 1) := by decide +kernel
theorem dX0_find_93 : decode mX0_find.2.1 93 = .ok (.iload_n 2, 1) := by decide +kernel
theorem dX0_find_94 : decode mX0_find.2.1 94 = .ok (.invokevirtual 66, 3) := by decide +kernel
theorem dX0_find_97 : decode mX0_find.2.1 97 = .ok (.iastore, 1) := by decide +kernel
theorem dX0_find_98 : decode mX0_find.2.1 98 = .ok (.iinc 3 1, 3) := by decide +kernel
theorem dX0_find_101 : decode mX0_find.2.1 101 = .ok (.goto (-26), 3) := by decide +kernel
theorem dX0_find_104 : decode mX0_find.2.1 104 = .ok (.return_, 1) := by decide +kernel
theorem dX0_giveFates_0 : decode mX0_giveFates.2.1 0 = .ok (.iconst 0, 1) := by decide +kernel
theorem dX0_giveFates_1 : decode mX0_giveFates.2.1 1 = .ok (.istore 4, 2) := by decide +kernel
theorem dX0_giveFates_3 : decode mX0_giveFates.2.1 3 = .ok (.iload 4, 2) := by decide +kernel
theorem dX0_giveFates_5 : decode mX0_giveFates.2.1 5 = .ok (.aload_n 0, 1) := by decide +kernel
theorem dX0_giveFates_6 : decode mX0_giveFates.2.1 6 = .ok (.getfield 22, 3) := by decide +kernel
theorem dX0_giveFates_9 : decode mX0_giveFates.2.1 9 = .ok (.invokevirtual 34, 3) := by decide +kernel
theorem dX0_giveFates_12 : decode mX0_giveFates.2.1 12 = .ok (.if_icmp .ge 44, 3) := by decide +kernel
theorem dX0_giveFates_15 : decode mX0_giveFates.2.1 15 = .ok (.aload_n 0, 1) := by decide +kernel
theorem dX0_giveFates_16 : decode mX0_giveFates.2.1 16 = .ok (.getfield 22, 3) := by decide +kernel
theorem dX0_giveFates_19 : decode mX0_giveFates.2.1 19 = .ok (.iload 4, 2) := by decide +kernel
theorem dX0_giveFates_21 : decode mX0_giveFates.2.1 21 = .ok (.invokevirtual 40, 3) := by decide +kernel
theorem dX0_giveFates_24 : decode mX0_giveFates.2.1 24 = .ok (.iload_n 1, 1) := by decide +kernel
theorem dX0_giveFates_25 : decode mX0_giveFates.2.1 25 = .ok (.if_icmp .ne 25, 3) := by decide +kernel
theorem dX0_giveFates_28 : decode mX0_giveFates.2.1 28 = .ok (.aload_n 0, 1) := by decide +kernel
theorem dX0_giveFates_29 : decode mX0_giveFates.2.1 29 = .ok (.getfield 9, 3) := by decide +kernel
theorem dX0_giveFates_32 : decode mX0_giveFates.2.1 32 = .ok (.iload 4, 2) := by decide +kernel
theorem dX0_giveFates_34 : decode mX0_giveFates.2.1 34 = .ok (.iload_n 2, 1) := by decide +kernel
theorem dX0_giveFates_35 : decode mX0_giveFates.2.1 35 = .ok (.iload 4, 2) := by decide +kernel
theorem dX0_giveFates_37 : decode mX0_giveFates.2.1 37 = .ok (.ishr, 1) := by decide +kernel
theorem dX0_giveFates_38 : decode mX0_giveFates.2.1 38 = .ok (.iconst 1, 1) := by decide +kernel
theorem dX0_giveFates_39 : decode mX0_giveFates.2.1 39 = .ok (.iand, 1) := by decide +kernel
theorem dX0_giveFates_40 : decode mX0_giveFates.2.1 40 = .ok (.iload_n 3, 1) := by decide +kernel
theorem dX0_giveFates_41 : decode mX0_giveFates.2.1 41 = .ok (.iload 4, 2) := by decide +kernel
theorem dX0_giveFates_43 : decode mX0_giveFates.2.1 43 = .ok (.ishr, 1) := by decide +kernel
theorem dX0_giveFates_44 : decode mX0_giveFates.2.1 44 = .ok (.iconst 1, 1) := by decide +kernel
theorem dX0_giveFates_45 : decode mX0_giveFates.2.1 45 = .ok (.iand, 1) := by decide +kernel
theorem dX0_giveFates_46 : decode mX0_giveFates.2.1 46 = .ok (.invokestatic 69, 3) := by decide +kernel
theorem dX0_giveFates_49 : decode mX0_giveFates.2.1 49 = .ok (.iastore, 1) := by decide +kernel
theorem dX0_giveFates_50 : decode mX0_giveFates.2.1 50 = .ok (.iinc 4 1, 3) := by decide +kernel
theorem dX0_giveFates_53 : decode mX0_giveFates.2.1 53 = .ok (.goto (-50), 3) := by decide +kernel
theorem dX0_giveFates_56 : decode mX0_giveFates.2.1 56 = .ok (.return_, 1) := by decide +kernel
theorem dX0_fateOf_0 : decode mX0_fateOf.2.1 0 = .ok (.iload_n 0, 1) := by decide +kernel
theorem dX0_fateOf_1 : decode mX0_fateOf.2.1 1 = .ok (.iconst 1, 1) := by decide +kernel
theorem dX0_fateOf_2 : decode mX0_fateOf.2.1 2 = .ok (.if_icmp .ne 5, 3) := by decide +kernel
theorem dX0_fateOf_5 : decode mX0_fateOf.2.1 5 = .ok (.iconst 2, 1) := by decide +kernel
theorem dX0_fateOf_6 : decode mX0_fateOf.2.1 6 = .ok (.ireturn, 1) := by decide +kernel
theorem dX0_fateOf_7 : decode mX0_fateOf.2.1 7 = .ok (.iload_n 1, 1) := by decide +kernel
theorem dX0_fateOf_8 : decode mX0_fateOf.2.1 8 = .ok (.iconst 1, 1) := by decide +kernel
theorem dX0_fateOf_9 : decode mX0_fateOf.2.1 9 = .ok (.if_icmp .ne 7, 3) := by decide +kernel
theorem dX0_fateOf_12 : decode mX0_fateOf.2.1 12 = .ok (.iconst 1, 1) := by decide +kernel
theorem dX0_fateOf_13 : decode mX0_fateOf.2.1 13 = .ok (.goto 4, 3) := by decide +kernel
theorem dX0_fateOf_16 : decode mX0_fateOf.2.1 16 = .ok (.iconst 0, 1) := by decide +kernel
theorem dX0_fateOf_17 : decode mX0_fateOf.2.1 17 = .ok (.ireturn, 1) := by decide +kernel
theorem dX0_allKept_0 : decode mX0_allKept.2.1 0 = .ok (.iconst 0, 1) := by decide +kernel
theorem dX0_allKept_1 : decode mX0_allKept.2.1 1 = .ok (.istore_n 1, 1) := by decide +kernel
theorem dX0_allKept_2 : decode mX0_allKept.2.1 2 = .ok (.iconst 0, 1) := by decide +kernel
theorem dX0_allKept_3 : decode mX0_allKept.2.1 3 = .ok (.istore_n 2, 1) := by decide +kernel
theorem dX0_allKept_4 : decode mX0_allKept.2.1 4 = .ok (.iload_n 2, 1) := by decide +kernel
theorem dX0_allKept_5 : decode mX0_allKept.2.1 5 = .ok (.aload_n 0, 1) := by decide +kernel
theorem dX0_allKept_6 : decode mX0_allKept.2.1 6 = .ok (.getfield 22, 3) := by decide +kernel
theorem dX0_allKept_9 : decode mX0_allKept.2.1 9 = .ok (.invokevirtual 34, 3) := by decide +kernel
theorem dX0_allKept_12 : decode mX0_allKept.2.1 12 = .ok (.if_icmp .ge 24, 3) := by decide +kernel
theorem dX0_allKept_15 : decode mX0_allKept.2.1 15 = .ok (.aload_n 0, 1) := by decide +kernel
theorem dX0_allKept_16 : decode mX0_allKept.2.1 16 = .ok (.getfield 9, 3) := by decide +kernel
theorem dX0_allKept_19 : decode mX0_allKept.2.1 19 = .ok (.iload_n 2, 1) := by decide +kernel
theorem dX0_allKept_20 : decode mX0_allKept.2.1 20 = .ok (.iaload, 1) := by decide +kernel
theorem dX0_allKept_21 : decode mX0_allKept.2.1 21 = .ok (.ifCond .ne 9, 3) := by decide +kernel
theorem dX0_allKept_24 : decode mX0_allKept.2.1 24 = .ok (.iload_n 1, 1) := by decide +kernel
theorem dX0_allKept_25 : decode mX0_allKept.2.1 25 = .ok (.iconst 1, 1) := by decide +kernel
theorem dX0_allKept_26 : decode mX0_allKept.2.1 26 = .ok (.iload_n 2, 1) := by decide +kernel
theorem dX0_allKept_27 : decode mX0_allKept.2.1 27 = .ok (.ishl, 1) := by decide +kernel
theorem dX0_allKept_28 : decode mX0_allKept.2.1 28 = .ok (.ior, 1) := by decide +kernel
theorem dX0_allKept_29 : decode mX0_allKept.2.1 29 = .ok (.istore_n 1, 1) := by decide +kernel
theorem dX0_allKept_30 : decode mX0_allKept.2.1 30 = .ok (.iinc 2 1, 3) := by decide +kernel
theorem dX0_allKept_33 : decode mX0_allKept.2.1 33 = .ok (.goto (-29), 3) := by decide +kernel
theorem dX0_allKept_36 : decode mX0_allKept.2.1 36 = .ok (.iload_n 1, 1) := by decide +kernel
theorem dX0_allKept_37 : decode mX0_allKept.2.1 37 = .ok (.ireturn, 1) := by decide +kernel
theorem dX0_idleAmong_0 : decode mX0_idleAmong.2.1 0 = .ok (.iconst 0, 1) := by decide +kernel
theorem dX0_idleAmong_1 : decode mX0_idleAmong.2.1 1 = .ok (.istore_n 3, 1) := by decide +kernel
theorem dX0_idleAmong_2 : decode mX0_idleAmong.2.1 2 = .ok (.iconst 0, 1) := by decide +kernel
theorem dX0_idleAmong_3 : decode mX0_idleAmong.2.1 3 = .ok (.istore 4, 2) := by decide +kernel
theorem dX0_idleAmong_5 : decode mX0_idleAmong.2.1 5 = .ok (.iload 4, 2) := by decide +kernel
theorem dX0_idleAmong_7 : decode mX0_idleAmong.2.1 7 = .ok (.aload_n 0, 1) := by decide +kernel
theorem dX0_idleAmong_8 : decode mX0_idleAmong.2.1 8 = .ok (.getfield 18, 3) := by decide +kernel
theorem dX0_idleAmong_11 : decode mX0_idleAmong.2.1 11 = .ok (.iload_n 1, 1) := by decide +kernel
theorem dX0_idleAmong_12 : decode mX0_idleAmong.2.1 12 = .ok (.invokevirtual 72, 3) := by decide +kernel
theorem dX0_idleAmong_15 : decode mX0_idleAmong.2.1 15 = .ok (.if_icmp .ge 65, 3) := by decide +kernel
theorem dX0_idleAmong_18 : decode mX0_idleAmong.2.1 18 = .ok (.aload_n 0, 1) := by decide +kernel
theorem dX0_idleAmong_19 : decode mX0_idleAmong.2.1 19 = .ok (.getfield 26, 3) := by decide +kernel
theorem dX0_idleAmong_22 : decode mX0_idleAmong.2.1 22 = .ok (.iload_n 1, 1) := by decide +kernel
theorem dX0_idleAmong_23 : decode mX0_idleAmong.2.1 23 = .ok (.aload_n 0, 1) := by decide +kernel
theorem dX0_idleAmong_24 : decode mX0_idleAmong.2.1 24 = .ok (.getfield 18, 3) := by decide +kernel
theorem dX0_idleAmong_27 : decode mX0_idleAmong.2.1 27 = .ok (.iload_n 1, 1) := by decide +kernel
theorem dX0_idleAmong_28 : decode mX0_idleAmong.2.1 28 = .ok (.iload 4, 2) := by decide +kernel
theorem dX0_idleAmong_30 : decode mX0_idleAmong.2.1 30 = .ok (.invokevirtual 75, 3) := by decide +kernel
theorem dX0_idleAmong_33 : decode mX0_idleAmong.2.1 33 = .ok (.invokevirtual 55, 3) := by decide +kernel
theorem dX0_idleAmong_36 : decode mX0_idleAmong.2.1 36 = .ok (.istore 5, 2) := by decide +kernel
theorem dX0_idleAmong_38 : decode mX0_idleAmong.2.1 38 = .ok (.aload_n 0, 1) := by decide +kernel
theorem dX0_idleAmong_39 : decode mX0_idleAmong.2.1 39 = .ok (.getfield 18, 3) := by decide +kernel
theorem dX0_idleAmong_42 : decode mX0_idleAmong.2.1 42 = .ok (.iload_n 1, 1) := by decide +kernel
theorem dX0_idleAmong_43 : decode mX0_idleAmong.2.1 43 = .ok (.iload 4, 2) := by decide +kernel
theorem dX0_idleAmong_45 : decode mX0_idleAmong.2.1 45 = .ok (.invokevirtual 78, 3) := by decide +kernel
theorem dX0_idleAmong_48 : decode mX0_idleAmong.2.1 48 = .ok (.bipush 6, 2) := by decide +kernel
theorem dX0_idleAmong_50 : decode mX0_idleAmong.2.1 50 = .ok (.if_icmp .ne 24, 3) := by decide +kernel
theorem dX0_idleAmong_53 : decode mX0_idleAmong.2.1 53 = .ok (.iload 5, 2) := by decide +kernel
theorem dX0_idleAmong_55 : decode mX0_idleAmong.2.1 55 = .ok (.ifCond .eq 19, 3) := by decide +kernel
theorem dX0_idleAmong_58 : decode mX0_idleAmong.2.1 58 = .ok (.iload 5, 2) := by decide +kernel
theorem dX0_idleAmong_60 : decode mX0_idleAmong.2.1 60 = .ok (.iload_n 2, 1) := by decide +kernel
theorem dX0_idleAmong_61 : decode mX0_idleAmong.2.1 61 = .ok (.iconst (-1), 1) := by decide +kernel
theorem dX0_idleAmong_62 : decode mX0_idleAmong.2.1 62 = .ok (.ixor, 1) := by decide +kernel
theorem dX0_idleAmong_63 : decode mX0_idleAmong.2.1 63 = .ok (.iand, 1) := by decide +kernel
theorem dX0_idleAmong_64 : decode mX0_idleAmong.2.1 64 = .ok (.ifCond .ne 10, 3) := by decide +kernel
theorem dX0_idleAmong_67 : decode mX0_idleAmong.2.1 67 = .ok (.iload_n 3, 1) := by decide +kernel
theorem dX0_idleAmong_68 : decode mX0_idleAmong.2.1 68 = .ok (.iconst 1, 1) := by decide +kernel
theorem dX0_idleAmong_69 : decode mX0_idleAmong.2.1 69 = .ok (.iload 4, 2) := by decide +kernel
theorem dX0_idleAmong_71 : decode mX0_idleAmong.2.1 71 = .ok (.ishl, 1) := by decide +kernel
theorem dX0_idleAmong_72 : decode mX0_idleAmong.2.1 72 = .ok (.ior, 1) := by decide +kernel
theorem dX0_idleAmong_73 : decode mX0_idleAmong.2.1 73 = .ok (.istore_n 3, 1) := by decide +kernel
theorem dX0_idleAmong_74 : decode mX0_idleAmong.2.1 74 = .ok (.iinc 4 1, 3) := by decide +kernel
theorem dX0_idleAmong_77 : decode mX0_idleAmong.2.1 77 = .ok (.goto (-72), 3) := by decide +kernel
theorem dX0_idleAmong_80 : decode mX0_idleAmong.2.1 80 = .ok (.iload_n 3, 1) := by decide +kernel
theorem dX0_idleAmong_81 : decode mX0_idleAmong.2.1 81 = .ok (.ireturn, 1) := by decide +kernel
theorem dX1_init_0 : decode mX1_init.2.1 0 = .ok (.aload_n 0, 1) := by decide +kernel
theorem dX1_init_1 : decode mX1_init.2.1 1 = .ok (.invokespecial 3, 3) := by decide +kernel
theorem dX1_init_4 : decode mX1_init.2.1 4 = .ok (.aload_n 0, 1) := by decide +kernel
theorem dX1_init_5 : decode mX1_init.2.1 5 = .ok (.bipush 16, 2) := by decide +kernel
theorem dX1_init_7 : decode mX1_init.2.1 7 = .ok (.newarray .int, 2) := by decide +kernel
theorem dX1_init_9 : decode mX1_init.2.1 9 = .ok (.putfield 9, 3) := by decide +kernel
theorem dX1_init_12 : decode mX1_init.2.1 12 = .ok (.aload_n 0, 1) := by decide +kernel
theorem dX1_init_13 : decode mX1_init.2.1 13 = .ok (.bipush 32, 2) := by decide +kernel
theorem dX1_init_15 : decode mX1_init.2.1 15 = .ok (.newarray .int, 2) := by decide +kernel
theorem dX1_init_17 : decode mX1_init.2.1 17 = .ok (.putfield 15, 3) := by decide +kernel
theorem dX1_init_20 : decode mX1_init.2.1 20 = .ok (.aload_n 0, 1) := by decide +kernel
theorem dX1_init_21 : decode mX1_init.2.1 21 = .ok (.aload_n 1, 1) := by decide +kernel
theorem dX1_init_22 : decode mX1_init.2.1 22 = .ok (.putfield 18, 3) := by decide +kernel
theorem dX1_init_25 : decode mX1_init.2.1 25 = .ok (.aload_n 0, 1) := by decide +kernel
theorem dX1_init_26 : decode mX1_init.2.1 26 = .ok (.aload_n 2, 1) := by decide +kernel
theorem dX1_init_27 : decode mX1_init.2.1 27 = .ok (.putfield 22, 3) := by decide +kernel
theorem dX1_init_30 : decode mX1_init.2.1 30 = .ok (.return_, 1) := by decide +kernel
theorem dX1_inName_0 : decode mX1_inName.2.1 0 = .ok (.iload_n 1, 1) := by decide +kernel
theorem dX1_inName_1 : decode mX1_inName.2.1 1 = .ok (.iconst 4, 1) := by decide +kernel
theorem dX1_inName_2 : decode mX1_inName.2.1 2 = .ok (.invokestatic 26, 3) := by decide +kernel
theorem dX1_inName_5 : decode mX1_inName.2.1 5 = .ok (.ifCond .ne 11, 3) := by decide +kernel
theorem dX1_inName_8 : decode mX1_inName.2.1 8 = .ok (.iload_n 2, 1) := by decide +kernel
theorem dX1_inName_9 : decode mX1_inName.2.1 9 = .ok (.iconst 4, 1) := by decide +kernel
theorem dX1_inName_10 : decode mX1_inName.2.1 10 = .ok (.invokestatic 26, 3) := by decide +kernel
theorem dX1_inName_13 : decode mX1_inName.2.1 13 = .ok (.ifCond .eq 7, 3) := by decide +kernel
theorem dX1_inName_16 : decode mX1_inName.2.1 16 = .ok (.iconst 0, 1) := by decide +kernel
theorem dX1_inName_17 : decode mX1_inName.2.1 17 = .ok (.goto 13, 3) := by decide +kernel
theorem dX1_inName_20 : decode mX1_inName.2.1 20 = .ok (.aload_n 0, 1) := by decide +kernel
theorem dX1_inName_21 : decode mX1_inName.2.1 21 = .ok (.getfield 9, 3) := by decide +kernel
theorem dX1_inName_24 : decode mX1_inName.2.1 24 = .ok (.iload_n 1, 1) := by decide +kernel
theorem dX1_inName_25 : decode mX1_inName.2.1 25 = .ok (.iconst 4, 1) := by decide +kernel
theorem dX1_inName_26 : decode mX1_inName.2.1 26 = .ok (.imul, 1) := by decide +kernel
theorem dX1_inName_27 : decode mX1_inName.2.1 27 = .ok (.iload_n 2, 1) := by decide +kernel
theorem dX1_inName_28 : decode mX1_inName.2.1 28 = .ok (.iadd, 1) := by decide +kernel
theorem dX1_inName_29 : decode mX1_inName.2.1 29 = .ok (.iaload, 1) := by decide +kernel
theorem dX1_inName_30 : decode mX1_inName.2.1 30 = .ok (.ireturn, 1) := by decide +kernel
theorem dX1_inField_0 : decode mX1_inField.2.1 0 = .ok (.iload_n 1, 1) := by decide +kernel
theorem dX1_inField_1 : decode mX1_inField.2.1 1 = .ok (.bipush 32, 2) := by decide +kernel
theorem dX1_inField_3 : decode mX1_inField.2.1 3 = .ok (.invokestatic 26, 3) := by decide +kernel
theorem dX1_inField_6 : decode mX1_inField.2.1 6 = .ok (.ifCond .eq 7, 3) := by decide +kernel
theorem dX1_inField_9 : decode mX1_inField.2.1 9 = .ok (.iconst 0, 1) := by decide +kernel
theorem dX1_inField_10 : decode mX1_inField.2.1 10 = .ok (.goto 9, 3) := by decide +kernel
theorem dX1_inField_13 : decode mX1_inField.2.1 13 = .ok (.aload_n 0, 1) := by decide +kernel
theorem dX1_inField_14 : decode mX1_inField.2.1 14 = .ok (.getfield 15, 3) := by decide +kernel
theorem dX1_inField_17 : decode mX1_inField.2.1 17 = .ok (.iload_n 1, 1) := by decide +kernel
theorem dX1_inField_18 : decode mX1_inField.2.1 18 = .ok (.iaload, 1) := by decide +kernel
theorem dX1_inField_19 : decode mX1_inField.2.1 19 = .ok (.ireturn, 1) := by decide +kernel
theorem dX1_inOpenPlace_0 : decode mX1_inOpenPlace.2.1 0 = .ok (.aload_n 0, 1) := by decide +kernel
theorem dX1_inOpenPlace_1 : decode mX1_inOpenPlace.2.1 1 = .ok (.getfield 30, 3) := by decide +kernel
theorem dX1_inOpenPlace_4 : decode mX1_inOpenPlace.2.1 4 = .ok (.ireturn, 1) := by decide +kernel
theorem dX1_reachedFrom_0 : decode mX1_reachedFrom.2.1 0 = .ok (.iload_n 1, 1) := by decide +kernel
theorem dX1_reachedFrom_1 : decode mX1_reachedFrom.2.1 1 = .ok (.istore_n 2, 1) := by decide +kernel
theorem dX1_reachedFrom_2 : decode mX1_reachedFrom.2.1 2 = .ok (.iconst 0, 1) := by decide +kernel
theorem dX1_reachedFrom_3 : decode mX1_reachedFrom.2.1 3 = .ok (.istore_n 3, 1) := by decide +kernel
theorem dX1_reachedFrom_4 : decode mX1_reachedFrom.2.1 4 = .ok (.iconst 0, 1) := by decide +kernel
theorem dX1_reachedFrom_5 : decode mX1_reachedFrom.2.1 5 = .ok (.istore 4, 2) := by decide +kernel
theorem dX1_reachedFrom_7 : decode mX1_reachedFrom.2.1 7 = .ok (.iload 4, 2) := by decide +kernel
theorem dX1_reachedFrom_9 : decode mX1_reachedFrom.2.1 9 = .ok (.bipush 32, 2) := by decide +kernel
theorem dX1_reachedFrom_11 : decode mX1_reachedFrom.2.1 11 = .ok (.if_icmp .gt 24, 3) := by decide +kernel
theorem dX1_reachedFrom_14 : decode mX1_reachedFrom.2.1 14 = .ok (.iload_n 2, 1) := by decide +kernel
theorem dX1_reachedFrom_15 : decode mX1_reachedFrom.2.1 15 = .ok (.iload_n 3, 1) := by decide +kernel
theorem dX1_reachedFrom_16 : decode mX1_reachedFrom.2.1 16 = .ok (.if_icmp .eq 19, 3) := by decide +kernel
theorem dX1_reachedFrom_19 : decode mX1_reachedFrom.2.1 19 = .ok (.iload_n 2, 1) := by decide +kernel
theorem dX1_reachedFrom_20 : decode mX1_reachedFrom.2.1 20 = .ok (.istore_n 3, 1) := by decide +kernel
theorem dX1_reachedFrom_21 : decode mX1_reachedFrom.2.1 21 = .ok (.iload_n 2, 1) := by decide +kernel
theorem dX1_reachedFrom_22 : decode mX1_reachedFrom.2.1 22 = .ok (.aload_n 0, 1) := by decide +kernel
theorem dX1_reachedFrom_23 : decode mX1_reachedFrom.2.1 23 = .ok (.iload_n 2, 1) := by decide +kernel
theorem dX1_reachedFrom_24 : decode mX1_reachedFrom.2.1 24 = .ok (.invokevirtual 34, 3) := by decide +kernel
theorem dX1_reachedFrom_27 : decode mX1_reachedFrom.2.1 27 = .ok (.ior, 1) := by decide +kernel
theorem dX1_reachedFrom_28 : decode mX1_reachedFrom.2.1 28 = .ok (.istore_n 2, 1) := by decide +kernel
theorem dX1_reachedFrom_29 : decode mX1_reachedFrom.2.1 29 = .ok (.iinc 4 1, 3) := by decide +kernel
theorem dX1_reachedFrom_32 : decode mX1_reachedFrom.2.1 32 = .ok (.goto (-25), 3) := by decide +kernel
theorem dX1_reachedFrom_35 : decode mX1_reachedFrom.2.1 35 = .ok (.iload_n 2, 1) := by decide +kernel
theorem dX1_reachedFrom_36 : decode mX1_reachedFrom.2.1 36 = .ok (.ireturn, 1) := by decide +kernel
theorem dX1_find_0 : decode mX1_find.2.1 0 = .ok (.aload_n 0, 1) := by decide +kernel
theorem dX1_find_1 : decode mX1_find.2.1 1 = .ok (.getfield 9, 3) := by decide +kernel
theorem dX1_find_4 : decode mX1_find.2.1 4 = .ok (.iconst 0, 1) := by decide +kernel
theorem dX1_find_5 : decode mX1_find.2.1 5 = .ok (.invokestatic 38, 3) := by decide +kernel
theorem dX1_find_8 : decode mX1_find.2.1 8 = .ok (.aload_n 0, 1) := by decide +kernel
theorem dX1_find_9 : decode mX1_find.2.1 9 = .ok (.getfield 15, 3) := by decide +kernel
theorem dX1_find_12 : decode mX1_find.2.1 12 = .ok (.iconst 0, 1) := by decide +kernel
theorem dX1_find_13 : decode mX1_find.2.1 13 = .ok (.invokestatic 38, 3) := by decide +kernel
theorem dX1_find_16 : decode mX1_find.2.1 16 = .ok (.aload_n 0, 1) := by decide +kernel
theorem dX1_find_17 : decode mX1_find.2.1 17 = .ok (.iconst 0, 1) := by decide +kernel
theorem dX1_find_18 : decode mX1_find.2.1 18 = .ok (.putfield 30, 3) := by decide +kernel
theorem dX1_find_21 : decode mX1_find.2.1 21 = .ok (.aload_n 0, 1) := by decide +kernel
theorem dX1_find_22 : decode mX1_find.2.1 22 = .ok (.iconst 1, 1) := by decide +kernel
theorem dX1_find_23 : decode mX1_find.2.1 23 = .ok (.putfield 44, 3) := by decide +kernel
theorem dX1_find_26 : decode mX1_find.2.1 26 = .ok (.iconst 0, 1) := by decide +kernel
theorem dX1_find_27 : decode mX1_find.2.1 27 = .ok (.istore_n 1, 1) := by decide +kernel
theorem dX1_find_28 : decode mX1_find.2.1 28 = .ok (.iload_n 1, 1) := by decide +kernel
theorem dX1_find_29 : decode mX1_find.2.1 29 = .ok (.sipush 1569, 3) := by decide +kernel
theorem dX1_find_32 : decode mX1_find.2.1 32 = .ok (.if_icmp .ge 66, 3) := by decide +kernel
theorem dX1_find_35 : decode mX1_find.2.1 35 = .ok (.aload_n 0, 1) := by decide +kernel
theorem dX1_find_36 : decode mX1_find.2.1 36 = .ok (.getfield 44, 3) := by decide +kernel
theorem dX1_find_39 : decode mX1_find.2.1 39 = .ok (.ifCond .eq 59, 3) := by decide +kernel
theorem dX1_find_42 : decode mX1_find.2.1 42 = .ok (.aload_n 0, 1) := by decide +kernel
theorem dX1_find_43 : decode mX1_find.2.1 43 = .ok (.iconst 0, 1) := by decide +kernel
theorem dX1_find_44 : decode mX1_find.2.1 44 = .ok (.putfield 44, 3) := by decide +kernel
theorem dX1_find_47 : decode mX1_find.2.1 47 = .ok (.iconst 0, 1) := by decide +kernel
theorem dX1_find_48 : decode mX1_find.2.1 48 = .ok (.istore_n 2, 1) := by decide +kernel
theorem dX1_find_49 : decode mX1_find.2.1 49 = .ok (.iload_n 2, 1) := by decide +kernel
theorem dX1_find_50 : decode mX1_find.2.1 50 = .ok (.aload_n 0, 1) := by decide +kernel
theorem dX1_find_51 : decode mX1_find.2.1 51 = .ok (.getfield 18, 3) := by decide +kernel
theorem dX1_find_54 : decode mX1_find.2.1 54 = .ok (.invokevirtual 48, 3) := by decide +kernel
theorem dX1_find_57 : decode mX1_find.2.1 57 = .ok (.if_icmp .ge 35, 3) := by decide +kernel
theorem dX1_find_60 : decode mX1_find.2.1 60 = .ok (.iconst 0, 1) := by decide +kernel
theorem dX1_find_61 : decode mX1_find.2.1 61 = .ok (.istore_n 3, 1) := by decide +kernel
theorem dX1_find_62 : decode mX1_find.2.1 62 = .ok (.iload_n 3, 1) := by decide +kernel
theorem dX1_find_63 : decode mX1_find.2.1 63 = .ok (.aload_n 0, 1) := by decide +kernel
theorem dX1_find_64 : decode mX1_find.2.1 64 = .ok (.getfield 18, 3) := by decide +kernel
theorem dX1_find_67 : decode mX1_find.2.1 67 = .ok (.iload_n 2, 1) := by decide +kernel
theorem dX1_find_68 : decode mX1_find.2.1 68 = .ok (.invokevirtual 54, 3) := by decide +kernel
theorem dX1_find_71 : decode mX1_find.2.1 71 = .ok (.if_icmp .ge 15, 3) := by decide +kernel
theorem dX1_find_74 : decode mX1_find.2.1 74 = .ok (.aload_n 0, 1) := by decide +kernel
theorem dX1_find_75 : decode mX1_find.2.1 75 = .ok (.iload_n 2, 1) := by decide +kernel
theorem dX1_find_76 : decode mX1_find.2.1 76 = .ok (.iload_n 3, 1) := by decide +kernel
theorem dX1_find_77 : decode mX1_find.2.1 77 = .ok (.invokevirtual 57, 3) := by decide +kernel
theorem dX1_find_80 : decode mX1_find.2.1 80 = .ok (.iinc 3 1, 3) := by decide +kernel
theorem dX1_find_83 : decode mX1_find.2.1 83 = .ok (.goto (-21), 3) := by decide +kernel
theorem dX1_find_86 : decode mX1_find.2.1 86 = .ok (.iinc 2 1, 3) := by decide +kernel
theorem dX1_find_89 : decode mX1_find.2.1 89 = .ok (.goto (-40), 3) := by decide +kernel
theorem dX1_find_92 : decode mX1_find.2.1 92 = .ok (.iinc 1 1, 3) := by decide +kernel
theorem dX1_find_95 : decode mX1_find.2.1 95 = .ok (.goto (-67), 3) := by decide +kernel
theorem dX1_find_98 : decode mX1_find.2.1 98 = .ok (.return_, 1) := by decide +kernel
theorem dX1_addByLine_0 : decode mX1_addByLine.2.1 0 = .ok (.aload_n 0, 1) := by decide +kernel
theorem dX1_addByLine_1 : decode mX1_addByLine.2.1 1 = .ok (.getfield 18, 3) := by decide +kernel
theorem dX1_addByLine_4 : decode mX1_addByLine.2.1 4 = .ok (.iload_n 1, 1) := by decide +kernel
theorem dX1_addByLine_5 : decode mX1_addByLine.2.1 5 = .ok (.iload_n 2, 1) := by decide +kernel
theorem dX1_addByLine_6 : decode mX1_addByLine.2.1 6 = .ok (.invokevirtual 61, 3) := by decide +kernel
theorem dX1_addByLine_9 : decode mX1_addByLine.2.1 9 = .ok (.istore_n 3, 1) := by decide +kernel
theorem dX1_addByLine_10 : decode mX1_addByLine.2.1 10 = .ok (.aload_n 0, 1) := by decide +kernel
theorem dX1_addByLine_11 : decode mX1_addByLine.2.1 11 = .ok (.iload_n 1, 1) := by decide +kernel
theorem dX1_addByLine_12 : decode mX1_addByLine.2.1 12 = .ok (.aload_n 0, 1) := by decide +kernel
theorem dX1_addByLine_13 : decode mX1_addByLine.2.1 13 = .ok (.getfield 18, 3) := by decide +kernel
theorem dX1_addByLine_16 : decode mX1_addByLine.2.1 16 = .ok (.iload_n 1, 1) := by decide +kernel
theorem dX1_addByLine_17 : decode mX1_addByLine.2.1 17 = .ok (.iload_n 2, 1) := by decide +kernel
theorem dX1_addByLine_18 : decode mX1_addByLine.2.1 18 = .ok (.invokevirtual 65, 3) := by decide +kernel
theorem dX1_addByLine_21 : decode mX1_addByLine.2.1 21 = .ok (.invokevirtual 68, 3) := by decide +kernel
theorem dX1_addByLine_24 : decode mX1_addByLine.2.1 24 = .ok (.istore 4, 2) := by decide +kernel
theorem dX1_addByLine_26 : decode mX1_addByLine.2.1 26 = .ok (.aload_n 0, 1) := by decide +kernel
theorem dX1_addByLine_27 : decode mX1_addByLine.2.1 27 = .ok (.getfield 18, 3) := by decide +kernel
theorem dX1_addByLine_30 : decode mX1_addByLine.2.1 30 = .ok (.iload_n 1, 1) := by decide +kernel
theorem dX1_addByLine_31 : decode mX1_addByLine.2.1 31 = .ok (.iload_n 2, 1) := by decide +kernel
theorem dX1_addByLine_32 : decode mX1_addByLine.2.1 32 = .ok (.invokevirtual 71, 3) := by decide +kernel
theorem dX1_addByLine_35 : decode mX1_addByLine.2.1 35 = .ok (.tableswitch 171 0 7 #[45, 65, 76, 91, 106, 119, 171, 132], 45) := by decide +kernel
theorem dX1_addByLine_80 : decode mX1_addByLine.2.1 80 = .ok (.aload_n 0, 1) := by decide +kernel
theorem dX1_addByLine_81 : decode mX1_addByLine.2.1 81 = .ok (.iload_n 1, 1) := by decide +kernel
theorem dX1_addByLine_82 : decode mX1_addByLine.2.1 82 = .ok (.iload_n 3, 1) := by decide +kernel
theorem dX1_addByLine_83 : decode mX1_addByLine.2.1 83 = .ok (.iconst 1, 1) := by decide +kernel
theorem dX1_addByLine_84 : decode mX1_addByLine.2.1 84 = .ok (.aload_n 0, 1) := by decide +kernel
theorem dX1_addByLine_85 : decode mX1_addByLine.2.1 85 = .ok (.getfield 22, 3) := by decide +kernel
theorem dX1_addByLine_88 : decode mX1_addByLine.2.1 88 = .ok (.iload_n 1, 1) := by decide +kernel
theorem dX1_addByLine_89 : decode mX1_addByLine.2.1 89 = .ok (.iload_n 2, 1) := by decide +kernel
theorem dX1_addByLine_90 : decode mX1_addByLine.2.1 90 = .ok (.invokevirtual 74, 3) := by decide +kernel
theorem dX1_addByLine_93 : decode mX1_addByLine.2.1 93 = .ok (.ishl, 1) := by decide +kernel
theorem dX1_addByLine_94 : decode mX1_addByLine.2.1 94 = .ok (.invokevirtual 79, 3) := by decide +kernel
theorem dX1_addByLine_97 : decode mX1_addByLine.2.1 97 = .ok (.goto 109, 3) := by decide +kernel
theorem dX1_addByLine_100 : decode mX1_addByLine.2.1 100 = .ok (.aload_n 0, 1) := by decide +kernel
theorem dX1_addByLine_101 : decode mX1_addByLine.2.1 101 = .ok (.iload_n 1, 1) := by decide +kernel
theorem dX1_addByLine_102 : decode mX1_addByLine.2.1 102 = .ok (.iload_n 3, 1) := by decide +kernel
theorem dX1_addByLine_103 : decode mX1_addByLine.2.1 103 = .ok (.iload 4, 2) := by decide +kernel
theorem dX1_addByLine_105 : decode mX1_addByLine.2.1 105 = .ok (.invokevirtual 79, 3) := by decide +kernel
theorem dX1_addByLine_108 : decode mX1_addByLine.2.1 108 = .ok (.goto 98, 3) := by decide +kernel
theorem dX1_addByLine_111 : decode mX1_addByLine.2.1 111 = .ok (.aload_n 0, 1) := by decide +kernel
theorem dX1_addByLine_112 : decode mX1_addByLine.2.1 112 = .ok (.aload_n 0, 1) := by decide +kernel
theorem dX1_addByLine_113 : decode mX1_addByLine.2.1 113 = .ok (.iload_n 1, 1) := by decide +kernel
theorem dX1_addByLine_114 : decode mX1_addByLine.2.1 114 = .ok (.iload_n 3, 1) := by decide +kernel
theorem dX1_addByLine_115 : decode mX1_addByLine.2.1 115 = .ok (.invokevirtual 68, 3) := by decide +kernel
theorem dX1_addByLine_118 : decode mX1_addByLine.2.1 118 = .ok (.iload 4, 2) := by decide +kernel
theorem dX1_addByLine_120 : decode mX1_addByLine.2.1 120 = .ok (.invokevirtual 83, 3) := by decide +kernel
theorem dX1_addByLine_123 : decode mX1_addByLine.2.1 123 = .ok (.goto 83, 3) := by decide +kernel
theorem dX1_addByLine_126 : decode mX1_addByLine.2.1 126 = .ok (.aload_n 0, 1) := by decide +kernel
theorem dX1_addByLine_127 : decode mX1_addByLine.2.1 127 = .ok (.iload_n 1, 1) := by decide +kernel
theorem dX1_addByLine_128 : decode mX1_addByLine.2.1 128 = .ok (.iload_n 3, 1) := by decide +kernel
theorem dX1_addByLine_129 : decode mX1_addByLine.2.1 129 = .ok (.aload_n 0, 1) := by decide +kernel
theorem dX1_addByLine_130 : decode mX1_addByLine.2.1 130 = .ok (.iload 4, 2) := by decide +kernel
theorem dX1_addByLine_132 : decode mX1_addByLine.2.1 132 = .ok (.invokevirtual 34, 3) := by decide +kernel
theorem dX1_addByLine_135 : decode mX1_addByLine.2.1 135 = .ok (.invokevirtual 79, 3) := by decide +kernel
theorem dX1_addByLine_138 : decode mX1_addByLine.2.1 138 = .ok (.goto 68, 3) := by decide +kernel
theorem dX1_addByLine_141 : decode mX1_addByLine.2.1 141 = .ok (.aload_n 0, 1) := by decide +kernel
theorem dX1_addByLine_142 : decode mX1_addByLine.2.1 142 = .ok (.aload_n 0, 1) := by decide +kernel
theorem dX1_addByLine_143 : decode mX1_addByLine.2.1 143 = .ok (.iload_n 1, 1) := by decide +kernel
theorem dX1_addByLine_144 : decode mX1_addByLine.2.1 144 = .ok (.iload_n 3, 1) := by decide +kernel
theorem dX1_addByLine_145 : decode mX1_addByLine.2.1 145 = .ok (.invokevirtual 68, 3) := by decide +kernel
theorem dX1_addByLine_148 : decode mX1_addByLine.2.1 148 = .ok (.invokevirtual 86, 3) := by decide +kernel
theorem dX1_addByLine_151 : decode mX1_addByLine.2.1 151 = .ok (.goto 55, 3) := by decide +kernel
theorem dX1_addByLine_154 : decode mX1_addByLine.2.1 154 = .ok (.aload_n 0, 1) := by decide +kernel
theorem dX1_addByLine_155 : decode mX1_addByLine.2.1 155 = .ok (.iload_n 1, 1) := by decide +kernel
theorem dX1_addByLine_156 : decode mX1_addByLine.2.1 156 = .ok (.iload_n 3, 1) := by decide +kernel
theorem dX1_addByLine_157 : decode mX1_addByLine.2.1 157 = .ok (.aload_n 0, 1) := by decide +kernel
theorem dX1_addByLine_158 : decode mX1_addByLine.2.1 158 = .ok (.getfield 30, 3) := by decide +kernel
theorem dX1_addByLine_161 : decode mX1_addByLine.2.1 161 = .ok (.invokevirtual 79, 3) := by decide +kernel
theorem dX1_addByLine_164 : decode mX1_addByLine.2.1 164 = .ok (.goto 42, 3) := by decide +kernel
theorem dX1_addByLine_167 : decode mX1_addByLine.2.1 167 = .ok (.aload_n 0, 1) := by decide +kernel
theorem dX1_addByLine_168 : decode mX1_addByLine.2.1 168 = .ok (.aload_n 0, 1) := by decide +kernel
theorem dX1_addByLine_169 : decode mX1_addByLine.2.1 169 = .ok (.getfield 18, 3) := by decide +kernel
theorem dX1_addByLine_172 : decode mX1_addByLine.2.1 172 = .ok (.iload_n 1, 1) := by decide +kernel
theorem dX1_addByLine_173 : decode mX1_addByLine.2.1 173 = .ok (.iload_n 2, 1) := by decide +kernel
theorem dX1_addByLine_174 : decode mX1_addByLine.2.1 174 = .ok (.invokevirtual 90, 3) := by decide +kernel
theorem dX1_addByLine_177 : decode mX1_addByLine.2.1 177 = .ok (.iconst 0, 1) := by decide +kernel
theorem dX1_addByLine_178 : decode mX1_addByLine.2.1 178 = .ok (.iload 4, 2) := by decide +kernel
theorem dX1_addByLine_180 : decode mX1_addByLine.2.1 180 = .ok (.invokevirtual 79, 3) := by decide +kernel
theorem dX1_addByLine_183 : decode mX1_addByLine.2.1 183 = .ok (.aload_n 0, 1) := by decide +kernel
theorem dX1_addByLine_184 : decode mX1_addByLine.2.1 184 = .ok (.iload_n 1, 1) := by decide +kernel
theorem dX1_addByLine_185 : decode mX1_addByLine.2.1 185 = .ok (.iload_n 3, 1) := by decide +kernel
theorem dX1_addByLine_186 : decode mX1_addByLine.2.1 186 = .ok (.aload_n 0, 1) := by decide +kernel
theorem dX1_addByLine_187 : decode mX1_addByLine.2.1 187 = .ok (.aload_n 0, 1) := by decide +kernel
theorem dX1_addByLine_188 : decode mX1_addByLine.2.1 188 = .ok (.getfield 18, 3) := by decide +kernel
theorem dX1_addByLine_191 : decode mX1_addByLine.2.1 191 = .ok (.iload_n 1, 1) := by decide +kernel
theorem dX1_addByLine_192 : decode mX1_addByLine.2.1 192 = .ok (.iload_n 2, 1) := by decide +kernel
theorem dX1_addByLine_193 : decode mX1_addByLine.2.1 193 = .ok (.invokevirtual 90, 3) := by decide +kernel
theorem dX1_addByLine_196 : decode mX1_addByLine.2.1 196 = .ok (.iconst 3, 1) := by decide +kernel
theorem dX1_addByLine_197 : decode mX1_addByLine.2.1 197 = .ok (.invokevirtual 68, 3) := by decide +kernel
theorem dX1_addByLine_200 : decode mX1_addByLine.2.1 200 = .ok (.invokevirtual 79, 3) := by decide +kernel
theorem dX1_addByLine_203 : decode mX1_addByLine.2.1 203 = .ok (.goto 3, 3) := by decide +kernel
theorem dX1_addByLine_206 : decode mX1_addByLine.2.1 206 = .ok (.return_, 1) := by decide +kernel
theorem dX1_addToName_0 : decode mX1_addToName.2.1 0 = .ok (.iload_n 1, 1) := by decide +kernel
theorem dX1_addToName_1 : decode mX1_addToName.2.1 1 = .ok (.iconst 4, 1) := by decide +kernel
theorem dX1_addToName_2 : decode mX1_addToName.2.1 2 = .ok (.invokestatic 26, 3) := by decide +kernel
theorem dX1_addToName_5 : decode mX1_addToName.2.1 5 = .ok (.ifCond .ne 11, 3) := by decide +kernel
theorem dX1_addToName_8 : decode mX1_addToName.2.1 8 = .ok (.iload_n 2, 1) := by decide +kernel
theorem dX1_addToName_9 : decode mX1_addToName.2.1 9 = .ok (.iconst 4, 1) := by decide +kernel
theorem dX1_addToName_10 : decode mX1_addToName.2.1 10 = .ok (.invokestatic 26, 3) := by decide +kernel
theorem dX1_addToName_13 : decode mX1_addToName.2.1 13 = .ok (.ifCond .eq 4, 3) := by decide +kernel
theorem dX1_addToName_16 : decode mX1_addToName.2.1 16 = .ok (.return_, 1) := by decide +kernel
theorem dX1_addToName_17 : decode mX1_addToName.2.1 17 = .ok (.iload_n 1, 1) := by decide +kernel
theorem dX1_addToName_18 : decode mX1_addToName.2.1 18 = .ok (.iconst 4, 1) := by decide +kernel
theorem dX1_addToName_19 : decode mX1_addToName.2.1 19 = .ok (.imul, 1) := by decide +kernel
theorem dX1_addToName_20 : decode mX1_addToName.2.1 20 = .ok (.iload_n 2, 1) := by decide +kernel
theorem dX1_addToName_21 : decode mX1_addToName.2.1 21 = .ok (.iadd, 1) := by decide +kernel
theorem dX1_addToName_22 : decode mX1_addToName.2.1 22 = .ok (.istore 4, 2) := by decide +kernel
theorem dX1_addToName_24 : decode mX1_addToName.2.1 24 = .ok (.aload_n 0, 1) := by decide +kernel
theorem dX1_addToName_25 : decode mX1_addToName.2.1 25 = .ok (.getfield 9, 3) := by decide +kernel
theorem dX1_addToName_28 : decode mX1_addToName.2.1 28 = .ok (.iload 4, 2) := by decide +kernel
theorem dX1_addToName_30 : decode mX1_addToName.2.1 30 = .ok (.iaload, 1) := by decide +kernel
theorem dX1_addToName_31 : decode mX1_addToName.2.1 31 = .ok (.iload_n 3, 1) := by decide +kernel
theorem dX1_addToName_32 : decode mX1_addToName.2.1 32 = .ok (.ior, 1) := by decide +kernel
theorem dX1_addToName_33 : decode mX1_addToName.2.1 33 = .ok (.aload_n 0, 1) := by decide +kernel
theorem dX1_addToName_34 : decode mX1_addToName.2.1 34 = .ok (.getfield 9, 3) := by decide +kernel
theorem dX1_addToName_37 : decode mX1_addToName.2.1 37 = .ok (.iload 4, 2) := by decide +kernel
theorem dX1_addToName_39 : decode mX1_addToName.2.1 39 = .ok (.iaload, 1) := by decide +kernel
theorem dX1_addToName_40 : decode mX1_addToName.2.1 40 = .ok (.if_icmp .eq 19, 3) := by decide +kernel
theorem dX1_addToName_43 : decode mX1_addToName.2.1 43 = .ok (.aload_n 0, 1) := by decide +kernel
theorem dX1_addToName_44 : decode mX1_addToName.2.1 44 = .ok (.getfield 9, 3) := by decide +kernel
theorem dX1_addToName_47 : decode mX1_addToName.2.1 47 = .ok (.iload 4, 2) := by decide +kernel
theorem dX1_addToName_49 : decode mX1_addToName.2.1 49 = .ok (.dup2, 1) := by decide +kernel
theorem dX1_addToName_50 : decode mX1_addToName.2.1 50 = .ok (.iaload, 1) := by decide +kernel
theorem dX1_addToName_51 : decode mX1_addToName.2.1 51 = .ok (.iload_n 3, 1) := by decide +kernel
theorem dX1_addToName_52 : decode mX1_addToName.2.1 52 = .ok (.ior, 1) := by decide +kernel
theorem dX1_addToName_53 : decode mX1_addToName.2.1 53 = .ok (.iastore, 1) := by decide +kernel
theorem dX1_addToName_54 : decode mX1_addToName.2.1 54 = .ok (.aload_n 0, 1) := by decide +kernel
theorem dX1_addToName_55 : decode mX1_addToName.2.1 55 = .ok (.iconst 1, 1) := by decide +kernel
theorem dX1_addToName_56 : decode mX1_addToName.2.1 56 = .ok (.putfield 44, 3) := by decide +kernel
theorem dX1_addToName_59 : decode mX1_addToName.2.1 59 = .ok (.return_, 1) := by decide +kernel
theorem dX1_addToOpenPlace_0 : decode mX1_addToOpenPlace.2.1 0 = .ok (.aload_n 0, 1) := by decide +kernel
theorem dX1_addToOpenPlace_1 : decode mX1_addToOpenPlace.2.1 1 = .ok (.getfield 30, 3) := by decide +kernel
theorem dX1_addToOpenPlace_4 : decode mX1_addToOpenPlace.2.1 4 = .ok (.iload_n 1, 1) := by decide +kernel
theorem dX1_addToOpenPlace_5 : decode mX1_addToOpenPlace.2.1 5 = .ok (.ior, 1) := by decide +kernel
theorem dX1_addToOpenPlace_6 : decode mX1_addToOpenPlace.2.1 6 = .ok (.aload_n 0, 1) := by decide +kernel
theorem dX1_addToOpenPlace_7 : decode mX1_addToOpenPlace.2.1 7 = .ok (.getfield 30, 3) := by decide +kernel
theorem dX1_addToOpenPlace_10 : decode mX1_addToOpenPlace.2.1 10 = .ok (.if_icmp .eq 18, 3) := by decide +kernel
theorem dX1_addToOpenPlace_13 : decode mX1_addToOpenPlace.2.1 13 = .ok (.aload_n 0, 1) := by decide +kernel
theorem dX1_addToOpenPlace_14 : decode mX1_addToOpenPlace.2.1 14 = .ok (.dup, 1) := by decide +kernel
theorem dX1_addToOpenPlace_15 : decode mX1_addToOpenPlace.2.1 15 = .ok (.getfield 30, 3) := by decide +kernel
theorem dX1_addToOpenPlace_18 : decode mX1_addToOpenPlace.2.1 18 = .ok (.iload_n 1, 1) := by decide +kernel
theorem dX1_addToOpenPlace_19 : decode mX1_addToOpenPlace.2.1 19 = .ok (.ior, 1) := by decide +kernel
theorem dX1_addToOpenPlace_20 : decode mX1_addToOpenPlace.2.1 20 = .ok (.putfield 30, 3) := by decide +kernel
theorem dX1_addToOpenPlace_23 : decode mX1_addToOpenPlace.2.1 23 = .ok (.aload_n 0, 1) := by decide +kernel
theorem dX1_addToOpenPlace_24 : decode mX1_addToOpenPlace.2.1 24 = .ok (.iconst 1, 1) := by decide +kernel
theorem dX1_addToOpenPlace_25 : decode mX1_addToOpenPlace.2.1 25 = .ok (.putfield 44, 3) := by decide +kernel
theorem dX1_addToOpenPlace_28 : decode mX1_addToOpenPlace.2.1 28 = .ok (.return_, 1) := by decide +kernel
theorem dX1_addToFields_0 : decode mX1_addToFields.2.1 0 = .ok (.iconst 0, 1) := by decide +kernel
theorem dX1_addToFields_1 : decode mX1_addToFields.2.1 1 = .ok (.istore_n 3, 1) := by decide +kernel
theorem dX1_addToFields_2 : decode mX1_addToFields.2.1 2 = .ok (.iload_n 3, 1) := by decide +kernel
theorem dX1_addToFields_3 : decode mX1_addToFields.2.1 3 = .ok (.aload_n 0, 1) := by decide +kernel
theorem dX1_addToFields_4 : decode mX1_addToFields.2.1 4 = .ok (.getfield 22, 3) := by decide +kernel
theorem dX1_addToFields_7 : decode mX1_addToFields.2.1 7 = .ok (.invokevirtual 93, 3) := by decide +kernel
theorem dX1_addToFields_10 : decode mX1_addToFields.2.1 10 = .ok (.if_icmp .ge 50, 3) := by decide +kernel
theorem dX1_addToFields_13 : decode mX1_addToFields.2.1 13 = .ok (.iload_n 1, 1) := by decide +kernel
theorem dX1_addToFields_14 : decode mX1_addToFields.2.1 14 = .ok (.iload_n 3, 1) := by decide +kernel
theorem dX1_addToFields_15 : decode mX1_addToFields.2.1 15 = .ok (.ishr, 1) := by decide +kernel
theorem dX1_addToFields_16 : decode mX1_addToFields.2.1 16 = .ok (.iconst 1, 1) := by decide +kernel
theorem dX1_addToFields_17 : decode mX1_addToFields.2.1 17 = .ok (.iand, 1) := by decide +kernel
theorem dX1_addToFields_18 : decode mX1_addToFields.2.1 18 = .ok (.iconst 1, 1) := by decide +kernel
theorem dX1_addToFields_19 : decode mX1_addToFields.2.1 19 = .ok (.if_icmp .ne 35, 3) := by decide +kernel
theorem dX1_addToFields_22 : decode mX1_addToFields.2.1 22 = .ok (.aload_n 0, 1) := by decide +kernel
theorem dX1_addToFields_23 : decode mX1_addToFields.2.1 23 = .ok (.getfield 15, 3) := by decide +kernel
theorem dX1_addToFields_26 : decode mX1_addToFields.2.1 26 = .ok (.iload_n 3, 1) := by decide +kernel
theorem dX1_addToFields_27 : decode mX1_addToFields.2.1 27 = .ok (.iaload, 1) := by decide +kernel
theorem dX1_addToFields_28 : decode mX1_addToFields.2.1 28 = .ok (.iload_n 2, 1) := by decide +kernel
theorem dX1_addToFields_29 : decode mX1_addToFields.2.1 29 = .ok (.ior, 1) := by decide +kernel
theorem dX1_addToFields_30 : decode mX1_addToFields.2.1 30 = .ok (.aload_n 0, 1) := by decide +kernel
theorem dX1_addToFields_31 : decode mX1_addToFields.2.1 31 = .ok (.getfield 15, 3) := by decide +kernel
theorem dX1_addToFields_34 : decode mX1_addToFields.2.1 34 = .ok (.iload_n 3, 1) := by decide +kernel
theorem dX1_addToFields_35 : decode mX1_addToFields.2.1 35 = .ok (.iaload, 1) := by decide +kernel
theorem dX1_addToFields_36 : decode mX1_addToFields.2.1 36 = .ok (.if_icmp .eq 18, 3) := by decide +kernel
theorem dX1_addToFields_39 : decode mX1_addToFields.2.1 39 = .ok (.aload_n 0, 1) := by decide +kernel
theorem dX1_addToFields_40 : decode mX1_addToFields.2.1 40 = .ok (.getfield 15, 3) := by decide +kernel
theorem dX1_addToFields_43 : decode mX1_addToFields.2.1 43 = .ok (.iload_n 3, 1) := by decide +kernel
theorem dX1_addToFields_44 : decode mX1_addToFields.2.1 44 = .ok (.dup2, 1) := by decide +kernel
theorem dX1_addToFields_45 : decode mX1_addToFields.2.1 45 = .ok (.iaload, 1) := by decide +kernel
theorem dX1_addToFields_46 : decode mX1_addToFields.2.1 46 = .ok (.iload_n 2, 1) := by decide +kernel
theorem dX1_addToFields_47 : decode mX1_addToFields.2.1 47 = .ok (.ior, 1) := by decide +kernel
theorem dX1_addToFields_48 : decode mX1_addToFields.2.1 48 = .ok (.iastore, 1) := by decide +kernel
theorem dX1_addToFields_49 : decode mX1_addToFields.2.1 49 = .ok (.aload_n 0, 1) := by decide +kernel
theorem dX1_addToFields_50 : decode mX1_addToFields.2.1 50 = .ok (.iconst 1, 1) := by decide +kernel
theorem dX1_addToFields_51 : decode mX1_addToFields.2.1 51 = .ok (.putfield 44, 3) := by decide +kernel
theorem dX1_addToFields_54 : decode mX1_addToFields.2.1 54 = .ok (.iinc 3 1, 3) := by decide +kernel
theorem dX1_addToFields_57 : decode mX1_addToFields.2.1 57 = .ok (.goto (-55), 3) := by decide +kernel
theorem dX1_addToFields_60 : decode mX1_addToFields.2.1 60 = .ok (.return_, 1) := by decide +kernel
theorem dX1_inFields_0 : decode mX1_inFields.2.1 0 = .ok (.iconst 0, 1) := by decide +kernel
theorem dX1_inFields_1 : decode mX1_inFields.2.1 1 = .ok (.istore_n 2, 1) := by decide +kernel
theorem dX1_inFields_2 : decode mX1_inFields.2.1 2 = .ok (.iconst 0, 1) := by decide +kernel
theorem dX1_inFields_3 : decode mX1_inFields.2.1 3 = .ok (.istore_n 3, 1) := by decide +kernel
theorem dX1_inFields_4 : decode mX1_inFields.2.1 4 = .ok (.iload_n 3, 1) := by decide +kernel
theorem dX1_inFields_5 : decode mX1_inFields.2.1 5 = .ok (.aload_n 0, 1) := by decide +kernel
theorem dX1_inFields_6 : decode mX1_inFields.2.1 6 = .ok (.getfield 22, 3) := by decide +kernel
theorem dX1_inFields_9 : decode mX1_inFields.2.1 9 = .ok (.invokevirtual 93, 3) := by decide +kernel
theorem dX1_inFields_12 : decode mX1_inFields.2.1 12 = .ok (.if_icmp .ge 27, 3) := by decide +kernel
theorem dX1_inFields_15 : decode mX1_inFields.2.1 15 = .ok (.iload_n 1, 1) := by decide +kernel
theorem dX1_inFields_16 : decode mX1_inFields.2.1 16 = .ok (.iload_n 3, 1) := by decide +kernel
theorem dX1_inFields_17 : decode mX1_inFields.2.1 17 = .ok (.ishr, 1) := by decide +kernel
theorem dX1_inFields_18 : decode mX1_inFields.2.1 18 = .ok (.iconst 1, 1) := by decide +kernel
theorem dX1_inFields_19 : decode mX1_inFields.2.1 19 = .ok (.iand, 1) := by decide +kernel
theorem dX1_inFields_20 : decode mX1_inFields.2.1 20 = .ok (.iconst 1, 1) := by decide +kernel
theorem dX1_inFields_21 : decode mX1_inFields.2.1 21 = .ok (.if_icmp .ne 12, 3) := by decide +kernel
theorem dX1_inFields_24 : decode mX1_inFields.2.1 24 = .ok (.iload_n 2, 1) := by decide +kernel
theorem dX1_inFields_25 : decode mX1_inFields.2.1 25 = .ok (.aload_n 0, 1) := by decide +kernel
theorem dX1_inFields_26 : decode mX1_inFields.2.1 26 = .ok (.getfield 15, 3) := by decide +kernel
theorem dX1_inFields_29 : decode mX1_inFields.2.1 29 = .ok (.iload_n 3, 1) := by decide +kernel
theorem dX1_inFields_30 : decode mX1_inFields.2.1 30 = .ok (.iaload, 1) := by decide +kernel
theorem dX1_inFields_31 : decode mX1_inFields.2.1 31 = .ok (.ior, 1) := by decide +kernel
theorem dX1_inFields_32 : decode mX1_inFields.2.1 32 = .ok (.istore_n 2, 1) := by decide +kernel
theorem dX1_inFields_33 : decode mX1_inFields.2.1 33 = .ok (.iinc 3 1, 3) := by decide +kernel
theorem dX1_inFields_36 : decode mX1_inFields.2.1 36 = .ok (.goto (-32), 3) := by decide +kernel
theorem dX1_inFields_39 : decode mX1_inFields.2.1 39 = .ok (.iload_n 2, 1) := by decide +kernel
theorem dX1_inFields_40 : decode mX1_inFields.2.1 40 = .ok (.ireturn, 1) := by decide +kernel
theorem dX2_init_0 : decode mX2_init.2.1 0 = .ok (.aload_n 0, 1) := by decide +kernel
theorem dX2_init_1 : decode mX2_init.2.1 1 = .ok (.invokespecial 3, 3) := by decide +kernel
theorem dX2_init_4 : decode mX2_init.2.1 4 = .ok (.aload_n 0, 1) := by decide +kernel
theorem dX2_init_5 : decode mX2_init.2.1 5 = .ok (.iconst 4, 1) := by decide +kernel
theorem dX2_init_6 : decode mX2_init.2.1 6 = .ok (.newarray .int, 2) := by decide +kernel
theorem dX2_init_8 : decode mX2_init.2.1 8 = .ok (.putfield 9, 3) := by decide +kernel
theorem dX2_init_11 : decode mX2_init.2.1 11 = .ok (.aload_n 0, 1) := by decide +kernel
theorem dX2_init_12 : decode mX2_init.2.1 12 = .ok (.bipush 32, 2) := by decide +kernel
theorem dX2_init_14 : decode mX2_init.2.1 14 = .ok (.newarray .int, 2) := by decide +kernel
theorem dX2_init_16 : decode mX2_init.2.1 16 = .ok (.putfield 15, 3) := by decide +kernel
theorem dX2_init_19 : decode mX2_init.2.1 19 = .ok (.return_, 1) := by decide +kernel
theorem dX2_count_0 : decode mX2_count.2.1 0 = .ok (.aload_n 0, 1) := by decide +kernel
theorem dX2_count_1 : decode mX2_count.2.1 1 = .ok (.getfield 18, 3) := by decide +kernel
theorem dX2_count_4 : decode mX2_count.2.1 4 = .ok (.ireturn, 1) := by decide +kernel
theorem dX2_has_0 : decode mX2_has.2.1 0 = .ok (.iload_n 1, 1) := by decide +kernel
theorem dX2_has_1 : decode mX2_has.2.1 1 = .ok (.ifCond .lt 15, 3) := by decide +kernel
theorem dX2_has_4 : decode mX2_has.2.1 4 = .ok (.iload_n 1, 1) := by decide +kernel
theorem dX2_has_5 : decode mX2_has.2.1 5 = .ok (.aload_n 0, 1) := by decide +kernel
theorem dX2_has_6 : decode mX2_has.2.1 6 = .ok (.getfield 18, 3) := by decide +kernel
theorem dX2_has_9 : decode mX2_has.2.1 9 = .ok (.if_icmp .ge 7, 3) := by decide +kernel
theorem dX2_has_12 : decode mX2_has.2.1 12 = .ok (.iconst 1, 1) := by decide +kernel
theorem dX2_has_13 : decode mX2_has.2.1 13 = .ok (.goto 4, 3) := by decide +kernel
theorem dX2_has_16 : decode mX2_has.2.1 16 = .ok (.iconst 0, 1) := by decide +kernel
theorem dX2_has_17 : decode mX2_has.2.1 17 = .ok (.ireturn, 1) := by decide +kernel
theorem dX2_lines_0 : decode mX2_lines.2.1 0 = .ok (.aload_n 0, 1) := by decide +kernel
theorem dX2_lines_1 : decode mX2_lines.2.1 1 = .ok (.iload_n 1, 1) := by decide +kernel
theorem dX2_lines_2 : decode mX2_lines.2.1 2 = .ok (.invokevirtual 22, 3) := by decide +kernel
theorem dX2_lines_5 : decode mX2_lines.2.1 5 = .ok (.ifCond .eq 12, 3) := by decide +kernel
theorem dX2_lines_8 : decode mX2_lines.2.1 8 = .ok (.aload_n 0, 1) := by decide +kernel
theorem dX2_lines_9 : decode mX2_lines.2.1 9 = .ok (.getfield 9, 3) := by decide +kernel
theorem dX2_lines_12 : decode mX2_lines.2.1 12 = .ok (.iload_n 1, 1) := by decide +kernel
theorem dX2_lines_13 : decode mX2_lines.2.1 13 = .ok (.iaload, 1) := by decide +kernel
theorem dX2_lines_14 : decode mX2_lines.2.1 14 = .ok (.goto 4, 3) := by decide +kernel
theorem dX2_lines_17 : decode mX2_lines.2.1 17 = .ok (.iconst 0, 1) := by decide +kernel
theorem dX2_lines_18 : decode mX2_lines.2.1 18 = .ok (.ireturn, 1) := by decide +kernel
theorem dX2_hasLine_0 : decode mX2_hasLine.2.1 0 = .ok (.iload_n 2, 1) := by decide +kernel
theorem dX2_hasLine_1 : decode mX2_hasLine.2.1 1 = .ok (.ifCond .lt 16, 3) := by decide +kernel
theorem dX2_hasLine_4 : decode mX2_hasLine.2.1 4 = .ok (.iload_n 2, 1) := by decide +kernel
theorem dX2_hasLine_5 : decode mX2_hasLine.2.1 5 = .ok (.aload_n 0, 1) := by decide +kernel
theorem dX2_hasLine_6 : decode mX2_hasLine.2.1 6 = .ok (.iload_n 1, 1) := by decide +kernel
theorem dX2_hasLine_7 : decode mX2_hasLine.2.1 7 = .ok (.invokevirtual 26, 3) := by decide +kernel
theorem dX2_hasLine_10 : decode mX2_hasLine.2.1 10 = .ok (.if_icmp .ge 7, 3) := by decide +kernel
theorem dX2_hasLine_13 : decode mX2_hasLine.2.1 13 = .ok (.iconst 1, 1) := by decide +kernel
theorem dX2_hasLine_14 : decode mX2_hasLine.2.1 14 = .ok (.goto 4, 3) := by decide +kernel
theorem dX2_hasLine_17 : decode mX2_hasLine.2.1 17 = .ok (.iconst 0, 1) := by decide +kernel
theorem dX2_hasLine_18 : decode mX2_hasLine.2.1 18 = .ok (.ireturn, 1) := by decide +kernel
theorem dX2_sort_0 : decode mX2_sort.2.1 0 = .ok (.aload_n 0, 1) := by decide +kernel
theorem dX2_sort_1 : decode mX2_sort.2.1 1 = .ok (.iload_n 1, 1) := by decide +kernel
theorem dX2_sort_2 : decode mX2_sort.2.1 2 = .ok (.iload_n 2, 1) := by decide +kernel
theorem dX2_sort_3 : decode mX2_sort.2.1 3 = .ok (.invokevirtual 29, 3) := by decide +kernel
theorem dX2_sort_6 : decode mX2_sort.2.1 6 = .ok (.bipush 7, 2) := by decide +kernel
theorem dX2_sort_8 : decode mX2_sort.2.1 8 = .ok (.iand, 1) := by decide +kernel
theorem dX2_sort_9 : decode mX2_sort.2.1 9 = .ok (.ireturn, 1) := by decide +kernel
theorem dX2_name_0 : decode mX2_name.2.1 0 = .ok (.aload_n 0, 1) := by decide +kernel
theorem dX2_name_1 : decode mX2_name.2.1 1 = .ok (.iload_n 1, 1) := by decide +kernel
theorem dX2_name_2 : decode mX2_name.2.1 2 = .ok (.iload_n 2, 1) := by decide +kernel
theorem dX2_name_3 : decode mX2_name.2.1 3 = .ok (.invokevirtual 29, 3) := by decide +kernel
theorem dX2_name_6 : decode mX2_name.2.1 6 = .ok (.iconst 3, 1) := by decide +kernel
theorem dX2_name_7 : decode mX2_name.2.1 7 = .ok (.ishr, 1) := by decide +kernel
theorem dX2_name_8 : decode mX2_name.2.1 8 = .ok (.iconst 3, 1) := by decide +kernel
theorem dX2_name_9 : decode mX2_name.2.1 9 = .ok (.iand, 1) := by decide +kernel
theorem dX2_name_10 : decode mX2_name.2.1 10 = .ok (.ireturn, 1) := by decide +kernel
theorem dX2_hasOther_0 : decode mX2_hasOther.2.1 0 = .ok (.aload_n 0, 1) := by decide +kernel
theorem dX2_hasOther_1 : decode mX2_hasOther.2.1 1 = .ok (.iload_n 1, 1) := by decide +kernel
theorem dX2_hasOther_2 : decode mX2_hasOther.2.1 2 = .ok (.iload_n 2, 1) := by decide +kernel
theorem dX2_hasOther_3 : decode mX2_hasOther.2.1 3 = .ok (.invokevirtual 33, 3) := by decide +kernel
theorem dX2_hasOther_6 : decode mX2_hasOther.2.1 6 = .ok (.istore_n 3, 1) := by decide +kernel
theorem dX2_hasOther_7 : decode mX2_hasOther.2.1 7 = .ok (.iload_n 3, 1) := by decide +kernel
theorem dX2_hasOther_8 : decode mX2_hasOther.2.1 8 = .ok (.iconst 1, 1) := by decide +kernel
theorem dX2_hasOther_9 : decode mX2_hasOther.2.1 9 = .ok (.if_icmp .eq 19, 3) := by decide +kernel
theorem dX2_hasOther_12 : decode mX2_hasOther.2.1 12 = .ok (.iload_n 3, 1) := by decide +kernel
theorem dX2_hasOther_13 : decode mX2_hasOther.2.1 13 = .ok (.iconst 2, 1) := by decide +kernel
theorem dX2_hasOther_14 : decode mX2_hasOther.2.1 14 = .ok (.if_icmp .eq 14, 3) := by decide +kernel
theorem dX2_hasOther_17 : decode mX2_hasOther.2.1 17 = .ok (.iload_n 3, 1) := by decide +kernel
theorem dX2_hasOther_18 : decode mX2_hasOther.2.1 18 = .ok (.iconst 3, 1) := by decide +kernel
theorem dX2_hasOther_19 : decode mX2_hasOther.2.1 19 = .ok (.if_icmp .eq 9, 3) := by decide +kernel
theorem dX2_hasOther_22 : decode mX2_hasOther.2.1 22 = .ok (.iload_n 3, 1) := by decide +kernel
theorem dX2_hasOther_23 : decode mX2_hasOther.2.1 23 = .ok (.bipush 7, 2) := by decide +kernel
theorem dX2_hasOther_25 : decode mX2_hasOther.2.1 25 = .ok (.if_icmp .ne 7, 3) := by decide +kernel
theorem dX2_hasOther_28 : decode mX2_hasOther.2.1 28 = .ok (.iconst 1, 1) := by decide +kernel
theorem dX2_hasOther_29 : decode mX2_hasOther.2.1 29 = .ok (.goto 4, 3) := by decide +kernel
theorem dX2_hasOther_32 : decode mX2_hasOther.2.1 32 = .ok (.iconst 0, 1) := by decide +kernel
theorem dX2_hasOther_33 : decode mX2_hasOther.2.1 33 = .ok (.ireturn, 1) := by decide +kernel
theorem dX2_other_0 : decode mX2_other.2.1 0 = .ok (.aload_n 0, 1) := by decide +kernel
theorem dX2_other_1 : decode mX2_other.2.1 1 = .ok (.iload_n 1, 1) := by decide +kernel
theorem dX2_other_2 : decode mX2_other.2.1 2 = .ok (.iload_n 2, 1) := by decide +kernel
theorem dX2_other_3 : decode mX2_other.2.1 3 = .ok (.invokevirtual 29, 3) := by decide +kernel
theorem dX2_other_6 : decode mX2_other.2.1 6 = .ok (.iconst 5, 1) := by decide +kernel
theorem dX2_other_7 : decode mX2_other.2.1 7 = .ok (.ishr, 1) := by decide +kernel
theorem dX2_other_8 : decode mX2_other.2.1 8 = .ok (.iconst 3, 1) := by decide +kernel
theorem dX2_other_9 : decode mX2_other.2.1 9 = .ok (.iand, 1) := by decide +kernel
theorem dX2_other_10 : decode mX2_other.2.1 10 = .ok (.ireturn, 1) := by decide +kernel
theorem dX2_callee_0 : decode mX2_callee.2.1 0 = .ok (.aload_n 0, 1) := by decide +kernel
theorem dX2_callee_1 : decode mX2_callee.2.1 1 = .ok (.iload_n 1, 1) := by decide +kernel
theorem dX2_callee_2 : decode mX2_callee.2.1 2 = .ok (.iload_n 2, 1) := by decide +kernel
theorem dX2_callee_3 : decode mX2_callee.2.1 3 = .ok (.invokevirtual 29, 3) := by decide +kernel
theorem dX2_callee_6 : decode mX2_callee.2.1 6 = .ok (.bipush 7, 2) := by decide +kernel
theorem dX2_callee_8 : decode mX2_callee.2.1 8 = .ok (.ishr, 1) := by decide +kernel
theorem dX2_callee_9 : decode mX2_callee.2.1 9 = .ok (.iconst 3, 1) := by decide +kernel
theorem dX2_callee_10 : decode mX2_callee.2.1 10 = .ok (.iand, 1) := by decide +kernel
theorem dX2_callee_11 : decode mX2_callee.2.1 11 = .ok (.ireturn, 1) := by decide +kernel
theorem dX2_calledBy_0 : decode mX2_calledBy.2.1 0 = .ok (.iconst 0, 1) := by decide +kernel
theorem dX2_calledBy_1 : decode mX2_calledBy.2.1 1 = .ok (.istore_n 2, 1) := by decide +kernel
theorem dX2_calledBy_2 : decode mX2_calledBy.2.1 2 = .ok (.iconst 0, 1) := by decide +kernel
theorem dX2_calledBy_3 : decode mX2_calledBy.2.1 3 = .ok (.istore_n 3, 1) := by decide +kernel
theorem dX2_calledBy_4 : decode mX2_calledBy.2.1 4 = .ok (.iload_n 3, 1) := by decide +kernel
theorem dX2_calledBy_5 : decode mX2_calledBy.2.1 5 = .ok (.aload_n 0, 1) := by decide +kernel
theorem dX2_calledBy_6 : decode mX2_calledBy.2.1 6 = .ok (.iload_n 1, 1) := by decide +kernel
theorem dX2_calledBy_7 : decode mX2_calledBy.2.1 7 = .ok (.invokevirtual 26, 3) := by decide +kernel
theorem dX2_calledBy_10 : decode mX2_calledBy.2.1 10 = .ok (.if_icmp .ge 31, 3) := by decide +kernel
theorem dX2_calledBy_13 : decode mX2_calledBy.2.1 13 = .ok (.aload_n 0, 1) := by decide +kernel
theorem dX2_calledBy_14 : decode mX2_calledBy.2.1 14 = .ok (.iload_n 1, 1) := by decide +kernel
theorem dX2_calledBy_15 : decode mX2_calledBy.2.1 15 = .ok (.iload_n 3, 1) := by decide +kernel
theorem dX2_calledBy_16 : decode mX2_calledBy.2.1 16 = .ok (.invokevirtual 33, 3) := by decide +kernel
theorem dX2_calledBy_19 : decode mX2_calledBy.2.1 19 = .ok (.bipush 7, 2) := by decide +kernel
theorem dX2_calledBy_21 : decode mX2_calledBy.2.1 21 = .ok (.if_icmp .ne 14, 3) := by decide +kernel
theorem dX2_calledBy_24 : decode mX2_calledBy.2.1 24 = .ok (.iload_n 2, 1) := by decide +kernel
theorem dX2_calledBy_25 : decode mX2_calledBy.2.1 25 = .ok (.iconst 1, 1) := by decide +kernel
theorem dX2_calledBy_26 : decode mX2_calledBy.2.1 26 = .ok (.aload_n 0, 1) := by decide +kernel
theorem dX2_calledBy_27 : decode mX2_calledBy.2.1 27 = .ok (.iload_n 1, 1) := by decide +kernel
theorem dX2_calledBy_28 : decode mX2_calledBy.2.1 28 = .ok (.iload_n 3, 1) := by decide +kernel
theorem dX2_calledBy_29 : decode mX2_calledBy.2.1 29 = .ok (.invokevirtual 36, 3) := by decide +kernel
theorem dX2_calledBy_32 : decode mX2_calledBy.2.1 32 = .ok (.ishl, 1) := by decide +kernel
theorem dX2_calledBy_33 : decode mX2_calledBy.2.1 33 = .ok (.ior, 1) := by decide +kernel
theorem dX2_calledBy_34 : decode mX2_calledBy.2.1 34 = .ok (.istore_n 2, 1) := by decide +kernel
theorem dX2_calledBy_35 : decode mX2_calledBy.2.1 35 = .ok (.iinc 3 1, 3) := by decide +kernel
theorem dX2_calledBy_38 : decode mX2_calledBy.2.1 38 = .ok (.goto (-34), 3) := by decide +kernel
theorem dX2_calledBy_41 : decode mX2_calledBy.2.1 41 = .ok (.iload_n 2, 1) := by decide +kernel
theorem dX2_calledBy_42 : decode mX2_calledBy.2.1 42 = .ok (.ireturn, 1) := by decide +kernel
theorem dX2_becomeNone_0 : decode mX2_becomeNone.2.1 0 = .ok (.aload_n 0, 1) := by decide +kernel
theorem dX2_becomeNone_1 : decode mX2_becomeNone.2.1 1 = .ok (.iconst 0, 1) := by decide +kernel
theorem dX2_becomeNone_2 : decode mX2_becomeNone.2.1 2 = .ok (.putfield 18, 3) := by decide +kernel
theorem dX2_becomeNone_5 : decode mX2_becomeNone.2.1 5 = .ok (.return_, 1) := by decide +kernel
theorem dX2_addMethod_0 : decode mX2_addMethod.2.1 0 = .ok (.aload_n 0, 1) := by decide +kernel
theorem dX2_addMethod_1 : decode mX2_addMethod.2.1 1 = .ok (.getfield 18, 3) := by decide +kernel
theorem dX2_addMethod_4 : decode mX2_addMethod.2.1 4 = .ok (.iconst 4, 1) := by decide +kernel
theorem dX2_addMethod_5 : decode mX2_addMethod.2.1 5 = .ok (.if_icmp .ge 23, 3) := by decide +kernel
theorem dX2_addMethod_8 : decode mX2_addMethod.2.1 8 = .ok (.aload_n 0, 1) := by decide +kernel
theorem dX2_addMethod_9 : decode mX2_addMethod.2.1 9 = .ok (.getfield 9, 3) := by decide +kernel
theorem dX2_addMethod_12 : decode mX2_addMethod.2.1 12 = .ok (.aload_n 0, 1) := by decide +kernel
theorem dX2_addMethod_13 : decode mX2_addMethod.2.1 13 = .ok (.getfield 18, 3) := by decide +kernel
theorem dX2_addMethod_16 : decode mX2_addMethod.2.1 16 = .ok (.iconst 0, 1) := by decide +kernel
theorem dX2_addMethod_17 : decode mX2_addMethod.2.1 17 = .ok (.iastore, 1) := by decide +kernel
theorem dX2_addMethod_18 : decode mX2_addMethod.2.1 18 = .ok (.aload_n 0, 1) := by decide +kernel
theorem dX2_addMethod_19 : decode mX2_addMethod.2.1 19 = .ok (.dup, 1) := by decide +kernel
theorem dX2_addMethod_20 : decode mX2_addMethod.2.1 20 = .ok (.getfield 18, 3) := by decide +kernel
theorem dX2_addMethod_23 : decode mX2_addMethod.2.1 23 = .ok (.iconst 1, 1) := by decide +kernel
theorem dX2_addMethod_24 : decode mX2_addMethod.2.1 24 = .ok (.iadd, 1) := by decide +kernel
theorem dX2_addMethod_25 : decode mX2_addMethod.2.1 25 = .ok (.putfield 18, 3) := by decide +kernel
theorem dX2_addMethod_28 : decode mX2_addMethod.2.1 28 = .ok (.return_, 1) := by decide +kernel
theorem dX2_addLine_0 : decode mX2_addLine.2.1 0 = .ok (.aload_n 0, 1) := by decide +kernel
theorem dX2_addLine_1 : decode mX2_addLine.2.1 1 = .ok (.getfield 18, 3) := by decide +kernel
theorem dX2_addLine_4 : decode mX2_addLine.2.1 4 = .ok (.iconst 1, 1) := by decide +kernel
theorem dX2_addLine_5 : decode mX2_addLine.2.1 5 = .ok (.isub, 1) := by decide +kernel
theorem dX2_addLine_6 : decode mX2_addLine.2.1 6 = .ok (.istore 5, 2) := by decide +kernel
theorem dX2_addLine_8 : decode mX2_addLine.2.1 8 = .ok (.aload_n 0, 1) := by decide +kernel
theorem dX2_addLine_9 : decode mX2_addLine.2.1 9 = .ok (.iload 5, 2) := by decide +kernel
theorem dX2_addLine_11 : decode mX2_addLine.2.1 11 = .ok (.invokevirtual 22, 3) := by decide +kernel
theorem dX2_addLine_14 : decode mX2_addLine.2.1 14 = .ok (.ifCond .eq 59, 3) := by decide +kernel
theorem dX2_addLine_17 : decode mX2_addLine.2.1 17 = .ok (.aload_n 0, 1) := by decide +kernel
theorem dX2_addLine_18 : decode mX2_addLine.2.1 18 = .ok (.getfield 9, 3) := by decide +kernel
theorem dX2_addLine_21 : decode mX2_addLine.2.1 21 = .ok (.iload 5, 2) := by decide +kernel
theorem dX2_addLine_23 : decode mX2_addLine.2.1 23 = .ok (.iaload, 1) := by decide +kernel
theorem dX2_addLine_24 : decode mX2_addLine.2.1 24 = .ok (.bipush 8, 2) := by decide +kernel
theorem dX2_addLine_26 : decode mX2_addLine.2.1 26 = .ok (.if_icmp .ge 47, 3) := by decide +kernel
theorem dX2_addLine_29 : decode mX2_addLine.2.1 29 = .ok (.aload_n 0, 1) := by decide +kernel
theorem dX2_addLine_30 : decode mX2_addLine.2.1 30 = .ok (.getfield 15, 3) := by decide +kernel
theorem dX2_addLine_33 : decode mX2_addLine.2.1 33 = .ok (.iload 5, 2) := by decide +kernel
theorem dX2_addLine_35 : decode mX2_addLine.2.1 35 = .ok (.bipush 8, 2) := by decide +kernel
theorem dX2_addLine_37 : decode mX2_addLine.2.1 37 = .ok (.imul, 1) := by decide +kernel
theorem dX2_addLine_38 : decode mX2_addLine.2.1 38 = .ok (.aload_n 0, 1) := by decide +kernel
theorem dX2_addLine_39 : decode mX2_addLine.2.1 39 = .ok (.getfield 9, 3) := by decide +kernel
theorem dX2_addLine_42 : decode mX2_addLine.2.1 42 = .ok (.iload 5, 2) := by decide +kernel
theorem dX2_addLine_44 : decode mX2_addLine.2.1 44 = .ok (.iaload, 1) := by decide +kernel
theorem dX2_addLine_45 : decode mX2_addLine.2.1 45 = .ok (.iadd, 1) := by decide +kernel
theorem dX2_addLine_46 : decode mX2_addLine.2.1 46 = .ok (.iload_n 1, 1) := by decide +kernel
theorem dX2_addLine_47 : decode mX2_addLine.2.1 47 = .ok (.iload_n 2, 1) := by decide +kernel
theorem dX2_addLine_48 : decode mX2_addLine.2.1 48 = .ok (.iconst 3, 1) := by decide +kernel
theorem dX2_addLine_49 : decode mX2_addLine.2.1 49 = .ok (.ishl, 1) := by decide +kernel
theorem dX2_addLine_50 : decode mX2_addLine.2.1 50 = .ok (.ior, 1) := by decide +kernel
theorem dX2_addLine_51 : decode mX2_addLine.2.1 51 = .ok (.iload_n 3, 1) := by decide +kernel
theorem dX2_addLine_52 : decode mX2_addLine.2.1 52 = .ok (.iconst 5, 1) := by decide +kernel
theorem dX2_addLine_53 : decode mX2_addLine.2.1 53 = .ok (.ishl, 1) := by decide +kernel
theorem dX2_addLine_54 : decode mX2_addLine.2.1 54 = .ok (.ior, 1) := by decide +kernel
theorem dX2_addLine_55 : decode mX2_addLine.2.1 55 = .ok (.iload 4, 2) := by decide +kernel
theorem dX2_addLine_57 : decode mX2_addLine.2.1 57 = .ok (.bipush 7, 2) := by decide +kernel
theorem dX2_addLine_59 : decode mX2_addLine.2.1 59 = .ok (.ishl, 1) := by decide +kernel
theorem dX2_addLine_60 : decode mX2_addLine.2.1 60 = .ok (.ior, 1) := by decide +kernel
theorem dX2_addLine_61 : decode mX2_addLine.2.1 61 = .ok (.iastore, 1) := by decide +kernel
theorem dX2_addLine_62 : decode mX2_addLine.2.1 62 = .ok (.aload_n 0, 1) := by decide +kernel
theorem dX2_addLine_63 : decode mX2_addLine.2.1 63 = .ok (.getfield 9, 3) := by decide +kernel
theorem dX2_addLine_66 : decode mX2_addLine.2.1 66 = .ok (.iload 5, 2) := by decide +kernel
theorem dX2_addLine_68 : decode mX2_addLine.2.1 68 = .ok (.dup2, 1) := by decide +kernel
theorem dX2_addLine_69 : decode mX2_addLine.2.1 69 = .ok (.iaload, 1) := by decide +kernel
theorem dX2_addLine_70 : decode mX2_addLine.2.1 70 = .ok (.iconst 1, 1) := by decide +kernel
theorem dX2_addLine_71 : decode mX2_addLine.2.1 71 = .ok (.iadd, 1) := by decide +kernel
theorem dX2_addLine_72 : decode mX2_addLine.2.1 72 = .ok (.iastore, 1) := by decide +kernel
theorem dX2_addLine_73 : decode mX2_addLine.2.1 73 = .ok (.return_, 1) := by decide +kernel
theorem dX2_removeLine_0 : decode mX2_removeLine.2.1 0 = .ok (.aload_n 0, 1) := by decide +kernel
theorem dX2_removeLine_1 : decode mX2_removeLine.2.1 1 = .ok (.iload_n 1, 1) := by decide +kernel
theorem dX2_removeLine_2 : decode mX2_removeLine.2.1 2 = .ok (.iload_n 2, 1) := by decide +kernel
theorem dX2_removeLine_3 : decode mX2_removeLine.2.1 3 = .ok (.invokevirtual 39, 3) := by decide +kernel
theorem dX2_removeLine_6 : decode mX2_removeLine.2.1 6 = .ok (.ifCond .eq 45, 3) := by decide +kernel
theorem dX2_removeLine_9 : decode mX2_removeLine.2.1 9 = .ok (.iload_n 1, 1) := by decide +kernel
theorem dX2_removeLine_10 : decode mX2_removeLine.2.1 10 = .ok (.bipush 8, 2) := by decide +kernel
theorem dX2_removeLine_12 : decode mX2_removeLine.2.1 12 = .ok (.imul, 1) := by decide +kernel
theorem dX2_removeLine_13 : decode mX2_removeLine.2.1 13 = .ok (.iload_n 2, 1) := by decide +kernel
theorem dX2_removeLine_14 : decode mX2_removeLine.2.1 14 = .ok (.iadd, 1) := by decide +kernel
theorem dX2_removeLine_15 : decode mX2_removeLine.2.1 15 = .ok (.istore_n 3, 1) := by decide +kernel
theorem dX2_removeLine_16 : decode mX2_removeLine.2.1 16 = .ok (.aload_n 0, 1) := by decide +kernel
theorem dX2_removeLine_17 : decode mX2_removeLine.2.1 17 = .ok (.getfield 15, 3) := by decide +kernel
theorem dX2_removeLine_20 : decode mX2_removeLine.2.1 20 = .ok (.iload_n 3, 1) := by decide +kernel
theorem dX2_removeLine_21 : decode mX2_removeLine.2.1 21 = .ok (.iconst 1, 1) := by decide +kernel
theorem dX2_removeLine_22 : decode mX2_removeLine.2.1 22 = .ok (.iadd, 1) := by decide +kernel
theorem dX2_removeLine_23 : decode mX2_removeLine.2.1 23 = .ok (.aload_n 0, 1) := by decide +kernel
theorem dX2_removeLine_24 : decode mX2_removeLine.2.1 24 = .ok (.getfield 15, 3) := by decide +kernel
theorem dX2_removeLine_27 : decode mX2_removeLine.2.1 27 = .ok (.iload_n 3, 1) := by decide +kernel
theorem dX2_removeLine_28 : decode mX2_removeLine.2.1 28 = .ok (.aload_n 0, 1) := by decide +kernel
theorem dX2_removeLine_29 : decode mX2_removeLine.2.1 29 = .ok (.getfield 9, 3) := by decide +kernel
theorem dX2_removeLine_32 : decode mX2_removeLine.2.1 32 = .ok (.iload_n 1, 1) := by decide +kernel
theorem dX2_removeLine_33 : decode mX2_removeLine.2.1 33 = .ok (.iaload, 1) := by decide +kernel
theorem dX2_removeLine_34 : decode mX2_removeLine.2.1 34 = .ok (.iconst 1, 1) := by decide +kernel
theorem dX2_removeLine_35 : decode mX2_removeLine.2.1 35 = .ok (.isub, 1) := by decide +kernel
theorem dX2_removeLine_36 : decode mX2_removeLine.2.1 36 = .ok (.iload_n 2, 1) := by decide +kernel
theorem dX2_removeLine_37 : decode mX2_removeLine.2.1 37 = .ok (.isub, 1) := by decide +kernel
theorem dX2_removeLine_38 : decode mX2_removeLine.2.1 38 = .ok (.invokestatic 43, 3) := by decide +kernel
theorem dX2_removeLine_41 : decode mX2_removeLine.2.1 41 = .ok (.aload_n 0, 1) := by decide +kernel
theorem dX2_removeLine_42 : decode mX2_removeLine.2.1 42 = .ok (.getfield 9, 3) := by decide +kernel
theorem dX2_removeLine_45 : decode mX2_removeLine.2.1 45 = .ok (.iload_n 1, 1) := by decide +kernel
theorem dX2_removeLine_46 : decode mX2_removeLine.2.1 46 = .ok (.dup2, 1) := by decide +kernel
theorem dX2_removeLine_47 : decode mX2_removeLine.2.1 47 = .ok (.iaload, 1) := by decide +kernel
theorem dX2_removeLine_48 : decode mX2_removeLine.2.1 48 = .ok (.iconst 1, 1) := by decide +kernel
theorem dX2_removeLine_49 : decode mX2_removeLine.2.1 49 = .ok (.isub, 1) := by decide +kernel
theorem dX2_removeLine_50 : decode mX2_removeLine.2.1 50 = .ok (.iastore, 1) := by decide +kernel
theorem dX2_removeLine_51 : decode mX2_removeLine.2.1 51 = .ok (.return_, 1) := by decide +kernel
theorem dX2_swapWithNext_0 : decode mX2_swapWithNext.2.1 0 = .ok (.aload_n 0, 1) := by decide +kernel
theorem dX2_swapWithNext_1 : decode mX2_swapWithNext.2.1 1 = .ok (.iload_n 1, 1) := by decide +kernel
theorem dX2_swapWithNext_2 : decode mX2_swapWithNext.2.1 2 = .ok (.iload_n 2, 1) := by decide +kernel
theorem dX2_swapWithNext_3 : decode mX2_swapWithNext.2.1 3 = .ok (.invokevirtual 39, 3) := by decide +kernel
theorem dX2_swapWithNext_6 : decode mX2_swapWithNext.2.1 6 = .ok (.ifCond .eq 53, 3) := by decide +kernel
theorem dX2_swapWithNext_9 : decode mX2_swapWithNext.2.1 9 = .ok (.aload_n 0, 1) := by decide +kernel
theorem dX2_swapWithNext_10 : decode mX2_swapWithNext.2.1 10 = .ok (.iload_n 1, 1) := by decide +kernel
theorem dX2_swapWithNext_11 : decode mX2_swapWithNext.2.1 11 = .ok (.iload_n 2, 1) := by decide +kernel
theorem dX2_swapWithNext_12 : decode mX2_swapWithNext.2.1 12 = .ok (.iconst 1, 1) := by decide +kernel
theorem dX2_swapWithNext_13 : decode mX2_swapWithNext.2.1 13 = .ok (.iadd, 1) := by decide +kernel
theorem dX2_swapWithNext_14 : decode mX2_swapWithNext.2.1 14 = .ok (.invokevirtual 39, 3) := by decide +kernel
theorem dX2_swapWithNext_17 : decode mX2_swapWithNext.2.1 17 = .ok (.ifCond .eq 42, 3) := by decide +kernel
theorem dX2_swapWithNext_20 : decode mX2_swapWithNext.2.1 20 = .ok (.iload_n 1, 1) := by decide +kernel
theorem dX2_swapWithNext_21 : decode mX2_swapWithNext.2.1 21 = .ok (.bipush 8, 2) := by decide +kernel
theorem dX2_swapWithNext_23 : decode mX2_swapWithNext.2.1 23 = .ok (.imul, 1) := by decide +kernel
theorem dX2_swapWithNext_24 : decode mX2_swapWithNext.2.1 24 = .ok (.iload_n 2, 1) := by decide +kernel
theorem dX2_swapWithNext_25 : decode mX2_swapWithNext.2.1 25 = .ok (.iadd, 1) := by decide +kernel
theorem dX2_swapWithNext_26 : decode mX2_swapWithNext.2.1 26 = .ok (.istore_n 3, 1) := by decide +kernel
theorem dX2_swapWithNext_27 : decode mX2_swapWithNext.2.1 27 = .ok (.aload_n 0, 1) := by decide +kernel
theorem dX2_swapWithNext_28 : decode mX2_swapWithNext.2.1 28 = .ok (.getfield 15, 3) := by decide +kernel
theorem dX2_swapWithNext_31 : decode mX2_swapWithNext.2.1 31 = .ok (.iload_n 3, 1) := by decide +kernel
theorem dX2_swapWithNext_32 : decode mX2_swapWithNext.2.1 32 = .ok (.iaload, 1) := by decide +kernel
theorem dX2_swapWithNext_33 : decode mX2_swapWithNext.2.1 33 = .ok (.istore 4, 2) := by decide +kernel
theorem dX2_swapWithNext_35 : decode mX2_swapWithNext.2.1 35 = .ok (.aload_n 0, 1) := by decide +kernel
theorem dX2_swapWithNext_36 : decode mX2_swapWithNext.2.1 36 = .ok (.getfield 15, 3) := by decide +kernel
theorem dX2_swapWithNext_39 : decode mX2_swapWithNext.2.1 39 = .ok (.iload_n 3, 1) := by decide +kernel
theorem dX2_swapWithNext_40 : decode mX2_swapWithNext.2.1 40 = .ok (.aload_n 0, 1) := by decide +kernel
theorem dX2_swapWithNext_41 : decode mX2_swapWithNext.2.1 41 = .ok (.getfield 15, 3) := by decide +kernel
theorem dX2_swapWithNext_44 : decode mX2_swapWithNext.2.1 44 = .ok (.iload_n 3, 1) := by decide +kernel
theorem dX2_swapWithNext_45 : decode mX2_swapWithNext.2.1 45 = .ok (.iconst 1, 1) := by decide +kernel
theorem dX2_swapWithNext_46 : decode mX2_swapWithNext.2.1 46 = .ok (.iadd, 1) := by decide +kernel
theorem dX2_swapWithNext_47 : decode mX2_swapWithNext.2.1 47 = .ok (.iaload, 1) := by decide +kernel
theorem dX2_swapWithNext_48 : decode mX2_swapWithNext.2.1 48 = .ok (.iastore, 1) := by decide +kernel
theorem dX2_swapWithNext_49 : decode mX2_swapWithNext.2.1 49 = .ok (.aload_n 0, 1) := by decide +kernel
theorem dX2_swapWithNext_50 : decode mX2_swapWithNext.2.1 50 = .ok (.getfield 15, 3) := by decide +kernel
theorem dX2_swapWithNext_53 : decode mX2_swapWithNext.2.1 53 = .ok (.iload_n 3, 1) := by decide +kernel
theorem dX2_swapWithNext_54 : decode mX2_swapWithNext.2.1 54 = .ok (.iconst 1, 1) := by decide +kernel
theorem dX2_swapWithNext_55 : decode mX2_swapWithNext.2.1 55 = .ok (.iadd, 1) := by decide +kernel
theorem dX2_swapWithNext_56 : decode mX2_swapWithNext.2.1 56 = .ok (.iload 4, 2) := by decide +kernel
theorem dX2_swapWithNext_58 : decode mX2_swapWithNext.2.1 58 = .ok (.iastore, 1) := by decide +kernel
theorem dX2_swapWithNext_59 : decode mX2_swapWithNext.2.1 59 = .ok (.return_, 1) := by decide +kernel
theorem dX2_becomeLike_0 : decode mX2_becomeLike.2.1 0 = .ok (.aload_n 0, 1) := by decide +kernel
theorem dX2_becomeLike_1 : decode mX2_becomeLike.2.1 1 = .ok (.aload_n 1, 1) := by decide +kernel
theorem dX2_becomeLike_2 : decode mX2_becomeLike.2.1 2 = .ok (.getfield 18, 3) := by decide +kernel
theorem dX2_becomeLike_5 : decode mX2_becomeLike.2.1 5 = .ok (.putfield 18, 3) := by decide +kernel
theorem dX2_becomeLike_8 : decode mX2_becomeLike.2.1 8 = .ok (.aload_n 1, 1) := by decide +kernel
theorem dX2_becomeLike_9 : decode mX2_becomeLike.2.1 9 = .ok (.getfield 9, 3) := by decide +kernel
theorem dX2_becomeLike_12 : decode mX2_becomeLike.2.1 12 = .ok (.iconst 0, 1) := by decide +kernel
theorem dX2_becomeLike_13 : decode mX2_becomeLike.2.1 13 = .ok (.aload_n 0, 1) := by decide +kernel
theorem dX2_becomeLike_14 : decode mX2_becomeLike.2.1 14 = .ok (.getfield 9, 3) := by decide +kernel
theorem dX2_becomeLike_17 : decode mX2_becomeLike.2.1 17 = .ok (.iconst 0, 1) := by decide +kernel
theorem dX2_becomeLike_18 : decode mX2_becomeLike.2.1 18 = .ok (.iconst 4, 1) := by decide +kernel
theorem dX2_becomeLike_19 : decode mX2_becomeLike.2.1 19 = .ok (.invokestatic 43, 3) := by decide +kernel
theorem dX2_becomeLike_22 : decode mX2_becomeLike.2.1 22 = .ok (.aload_n 1, 1) := by decide +kernel
theorem dX2_becomeLike_23 : decode mX2_becomeLike.2.1 23 = .ok (.getfield 15, 3) := by decide +kernel
theorem dX2_becomeLike_26 : decode mX2_becomeLike.2.1 26 = .ok (.iconst 0, 1) := by decide +kernel
theorem dX2_becomeLike_27 : decode mX2_becomeLike.2.1 27 = .ok (.aload_n 0, 1) := by decide +kernel
theorem dX2_becomeLike_28 : decode mX2_becomeLike.2.1 28 = .ok (.getfield 15, 3) := by decide +kernel
theorem dX2_becomeLike_31 : decode mX2_becomeLike.2.1 31 = .ok (.iconst 0, 1) := by decide +kernel
theorem dX2_becomeLike_32 : decode mX2_becomeLike.2.1 32 = .ok (.bipush 32, 2) := by decide +kernel
theorem dX2_becomeLike_34 : decode mX2_becomeLike.2.1 34 = .ok (.invokestatic 43, 3) := by decide +kernel
theorem dX2_becomeLike_37 : decode mX2_becomeLike.2.1 37 = .ok (.return_, 1) := by decide +kernel
theorem dX2_code_0 : decode mX2_code.2.1 0 = .ok (.iload_n 1, 1) := by decide +kernel
theorem dX2_code_1 : decode mX2_code.2.1 1 = .ok (.ifCond .lt 39, 3) := by decide +kernel
theorem dX2_code_4 : decode mX2_code.2.1 4 = .ok (.iload_n 1, 1) := by decide +kernel
theorem dX2_code_5 : decode mX2_code.2.1 5 = .ok (.aload_n 0, 1) := by decide +kernel
theorem dX2_code_6 : decode mX2_code.2.1 6 = .ok (.getfield 18, 3) := by decide +kernel
theorem dX2_code_9 : decode mX2_code.2.1 9 = .ok (.if_icmp .ge 31, 3) := by decide +kernel
theorem dX2_code_12 : decode mX2_code.2.1 12 = .ok (.iload_n 2, 1) := by decide +kernel
theorem dX2_code_13 : decode mX2_code.2.1 13 = .ok (.ifCond .lt 27, 3) := by decide +kernel
theorem dX2_code_16 : decode mX2_code.2.1 16 = .ok (.iload_n 2, 1) := by decide +kernel
theorem dX2_code_17 : decode mX2_code.2.1 17 = .ok (.aload_n 0, 1) := by decide +kernel
theorem dX2_code_18 : decode mX2_code.2.1 18 = .ok (.getfield 9, 3) := by decide +kernel
theorem dX2_code_21 : decode mX2_code.2.1 21 = .ok (.iload_n 1, 1) := by decide +kernel
theorem dX2_code_22 : decode mX2_code.2.1 22 = .ok (.iaload, 1) := by decide +kernel
theorem dX2_code_23 : decode mX2_code.2.1 23 = .ok (.if_icmp .ge 17, 3) := by decide +kernel
theorem dX2_code_26 : decode mX2_code.2.1 26 = .ok (.aload_n 0, 1) := by decide +kernel
theorem dX2_code_27 : decode mX2_code.2.1 27 = .ok (.getfield 15, 3) := by decide +kernel
theorem dX2_code_30 : decode mX2_code.2.1 30 = .ok (.iload_n 1, 1) := by decide +kernel
theorem dX2_code_31 : decode mX2_code.2.1 31 = .ok (.bipush 8, 2) := by decide +kernel
theorem dX2_code_33 : decode mX2_code.2.1 33 = .ok (.imul, 1) := by decide +kernel
theorem dX2_code_34 : decode mX2_code.2.1 34 = .ok (.iload_n 2, 1) := by decide +kernel
theorem dX2_code_35 : decode mX2_code.2.1 35 = .ok (.iadd, 1) := by decide +kernel
theorem dX2_code_36 : decode mX2_code.2.1 36 = .ok (.iaload, 1) := by decide +kernel
theorem dX2_code_37 : decode mX2_code.2.1 37 = .ok (.goto 4, 3) := by decide +kernel
theorem dX2_code_40 : decode mX2_code.2.1 40 = .ok (.iconst 0, 1) := by decide +kernel
theorem dX2_code_41 : decode mX2_code.2.1 41 = .ok (.ireturn, 1) := by decide +kernel
theorem dX3_init_0 : decode mX3_init.2.1 0 = .ok (.aload_n 0, 1) := by decide +kernel
theorem dX3_init_1 : decode mX3_init.2.1 1 = .ok (.invokespecial 3, 3) := by decide +kernel
theorem dX3_init_4 : decode mX3_init.2.1 4 = .ok (.aload_n 0, 1) := by decide +kernel
theorem dX3_init_5 : decode mX3_init.2.1 5 = .ok (.new 9, 3) := by decide +kernel
theorem dX3_init_8 : decode mX3_init.2.1 8 = .ok (.dup, 1) := by decide +kernel
theorem dX3_init_9 : decode mX3_init.2.1 9 = .ok (.invokespecial 11, 3) := by decide +kernel
theorem dX3_init_12 : decode mX3_init.2.1 12 = .ok (.putfield 12, 3) := by decide +kernel
theorem dX3_init_15 : decode mX3_init.2.1 15 = .ok (.aload_n 0, 1) := by decide +kernel
theorem dX3_init_16 : decode mX3_init.2.1 16 = .ok (.iconst 4, 1) := by decide +kernel
theorem dX3_init_17 : decode mX3_init.2.1 17 = .ok (.newarray .int, 2) := by decide +kernel
theorem dX3_init_19 : decode mX3_init.2.1 19 = .ok (.putfield 18, 3) := by decide +kernel
theorem dX3_init_22 : decode mX3_init.2.1 22 = .ok (.aload_n 0, 1) := by decide +kernel
theorem dX3_init_23 : decode mX3_init.2.1 23 = .ok (.aload_n 1, 1) := by decide +kernel
theorem dX3_init_24 : decode mX3_init.2.1 24 = .ok (.putfield 22, 3) := by decide +kernel
theorem dX3_init_27 : decode mX3_init.2.1 27 = .ok (.aload_n 0, 1) := by decide +kernel
theorem dX3_init_28 : decode mX3_init.2.1 28 = .ok (.aload_n 2, 1) := by decide +kernel
theorem dX3_init_29 : decode mX3_init.2.1 29 = .ok (.putfield 26, 3) := by decide +kernel
theorem dX3_init_32 : decode mX3_init.2.1 32 = .ok (.return_, 1) := by decide +kernel
theorem dX3_readAll_0 : decode mX3_readAll.2.1 0 = .ok (.aload_n 0, 1) := by decide +kernel
theorem dX3_readAll_1 : decode mX3_readAll.2.1 1 = .ok (.iconst (-1), 1) := by decide +kernel
theorem dX3_readAll_2 : decode mX3_readAll.2.1 2 = .ok (.putfield 30, 3) := by decide +kernel
theorem dX3_readAll_5 : decode mX3_readAll.2.1 5 = .ok (.aload_n 0, 1) := by decide +kernel
theorem dX3_readAll_6 : decode mX3_readAll.2.1 6 = .ok (.getfield 12, 3) := by decide +kernel
theorem dX3_readAll_9 : decode mX3_readAll.2.1 9 = .ok (.aload_n 0, 1) := by decide +kernel
theorem dX3_readAll_10 : decode mX3_readAll.2.1 10 = .ok (.getfield 22, 3) := by decide +kernel
theorem dX3_readAll_13 : decode mX3_readAll.2.1 13 = .ok (.invokevirtual 34, 3) := by decide +kernel
theorem dX3_readAll_16 : decode mX3_readAll.2.1 16 = .ok (.aload_n 0, 1) := by decide +kernel
theorem dX3_readAll_17 : decode mX3_readAll.2.1 17 = .ok (.getfield 26, 3) := by decide +kernel
theorem dX3_readAll_20 : decode mX3_readAll.2.1 20 = .ok (.invokevirtual 38, 3) := by decide +kernel
theorem dX3_readAll_23 : decode mX3_readAll.2.1 23 = .ok (.aload_n 0, 1) := by decide +kernel
theorem dX3_readAll_24 : decode mX3_readAll.2.1 24 = .ok (.getfield 18, 3) := by decide +kernel
theorem dX3_readAll_27 : decode mX3_readAll.2.1 27 = .ok (.iconst (-1), 1) := by decide +kernel
theorem dX3_readAll_28 : decode mX3_readAll.2.1 28 = .ok (.invokestatic 43, 3) := by decide +kernel
theorem dX3_readAll_31 : decode mX3_readAll.2.1 31 = .ok (.iconst 0, 1) := by decide +kernel
theorem dX3_readAll_32 : decode mX3_readAll.2.1 32 = .ok (.istore_n 1, 1) := by decide +kernel
theorem dX3_readAll_33 : decode mX3_readAll.2.1 33 = .ok (.iload_n 1, 1) := by decide +kernel
theorem dX3_readAll_34 : decode mX3_readAll.2.1 34 = .ok (.iconst 4, 1) := by decide +kernel
theorem dX3_readAll_35 : decode mX3_readAll.2.1 35 = .ok (.if_icmp .ge 33, 3) := by decide +kernel
theorem dX3_readAll_38 : decode mX3_readAll.2.1 38 = .ok (.aload_n 0, 1) := by decide +kernel
theorem dX3_readAll_39 : decode mX3_readAll.2.1 39 = .ok (.getfield 30, 3) := by decide +kernel
theorem dX3_readAll_42 : decode mX3_readAll.2.1 42 = .ok (.iconst (-1), 1) := by decide +kernel
theorem dX3_readAll_43 : decode mX3_readAll.2.1 43 = .ok (.if_icmp .ne 25, 3) := by decide +kernel
theorem dX3_readAll_46 : decode mX3_readAll.2.1 46 = .ok (.aload_n 0, 1) := by decide +kernel
theorem dX3_readAll_47 : decode mX3_readAll.2.1 47 = .ok (.getfield 12, 3) := by decide +kernel
theorem dX3_readAll_50 : decode mX3_readAll.2.1 50 = .ok (.invokevirtual 49, 3) := by decide +kernel
theorem dX3_readAll_53 : decode mX3_readAll.2.1 53 = .ok (.iconst (-1), 1) := by decide +kernel
theorem dX3_readAll_54 : decode mX3_readAll.2.1 54 = .ok (.if_icmp .eq 14, 3) := by decide +kernel
theorem dX3_readAll_57 : decode mX3_readAll.2.1 57 = .ok (.aload_n 0, 1) := by decide +kernel
theorem dX3_readAll_58 : decode mX3_readAll.2.1 58 = .ok (.iload_n 1, 1) := by decide +kernel
theorem dX3_readAll_59 : decode mX3_readAll.2.1 59 = .ok (.invokevirtual 53, 3) := by decide +kernel
theorem dX3_readAll_62 : decode mX3_readAll.2.1 62 = .ok (.iinc 1 1, 3) := by decide +kernel
theorem dX3_readAll_65 : decode mX3_readAll.2.1 65 = .ok (.goto (-32), 3) := by decide +kernel
theorem dX3_readAll_68 : decode mX3_readAll.2.1 68 = .ok (.aload_n 0, 1) := by decide +kernel
theorem dX3_readAll_69 : decode mX3_readAll.2.1 69 = .ok (.iconst (-1), 1) := by decide +kernel
theorem dX3_readAll_70 : decode mX3_readAll.2.1 70 = .ok (.invokevirtual 57, 3) := by decide +kernel
theorem dX3_readAll_73 : decode mX3_readAll.2.1 73 = .ok (.aload_n 0, 1) := by decide +kernel
theorem dX3_readAll_74 : decode mX3_readAll.2.1 74 = .ok (.getfield 30, 3) := by decide +kernel
theorem dX3_readAll_77 : decode mX3_readAll.2.1 77 = .ok (.iconst (-1), 1) := by decide +kernel
theorem dX3_readAll_78 : decode mX3_readAll.2.1 78 = .ok (.if_icmp .ne 10, 3) := by decide +kernel
theorem dX3_readAll_81 : decode mX3_readAll.2.1 81 = .ok (.aload_n 0, 1) := by decide +kernel
theorem dX3_readAll_82 : decode mX3_readAll.2.1 82 = .ok (.invokevirtual 60, 3) := by decide +kernel
theorem dX3_readAll_85 : decode mX3_readAll.2.1 85 = .ok (.goto 7, 3) := by decide +kernel
theorem dX3_readAll_88 : decode mX3_readAll.2.1 88 = .ok (.aload_n 0, 1) := by decide +kernel
theorem dX3_readAll_89 : decode mX3_readAll.2.1 89 = .ok (.getfield 30, 3) := by decide +kernel
theorem dX3_readAll_92 : decode mX3_readAll.2.1 92 = .ok (.ireturn, 1) := by decide +kernel
theorem dX3_firstMissingCall_0 : decode mX3_firstMissingCall.2.1 0 = .ok (.iconst (-1), 1) := by decide +kernel
theorem dX3_firstMissingCall_1 : decode mX3_firstMissingCall.2.1 1 = .ok (.istore_n 1, 1) := by decide +kernel
theorem dX3_firstMissingCall_2 : decode mX3_firstMissingCall.2.1 2 = .ok (.aload_n 0, 1) := by decide +kernel
theorem dX3_firstMissingCall_3 : decode mX3_firstMissingCall.2.1 3 = .ok (.getfield 26, 3) := by decide +kernel
theorem dX3_firstMissingCall_6 : decode mX3_firstMissingCall.2.1 6 = .ok (.invokevirtual 63, 3) := by decide +kernel
theorem dX3_firstMissingCall_9 : decode mX3_firstMissingCall.2.1 9 = .ok (.istore_n 2, 1) := by decide +kernel
theorem dX3_firstMissingCall_10 : decode mX3_firstMissingCall.2.1 10 = .ok (.iload_n 2, 1) := by decide +kernel
theorem dX3_firstMissingCall_11 : decode mX3_firstMissingCall.2.1 11 = .ok (.iconst 4, 1) := by decide +kernel
theorem dX3_firstMissingCall_12 : decode mX3_firstMissingCall.2.1 12 = .ok (.if_icmp .ge 41, 3) := by decide +kernel
theorem dX3_firstMissingCall_15 : decode mX3_firstMissingCall.2.1 15 = .ok (.aload_n 0, 1) := by decide +kernel
theorem dX3_firstMissingCall_16 : decode mX3_firstMissingCall.2.1 16 = .ok (.getfield 18, 3) := by decide +kernel
theorem dX3_firstMissingCall_19 : decode mX3_firstMissingCall.2.1 19 = .ok (.iload_n 2, 1) := by decide +kernel
theorem dX3_firstMissingCall_20 : decode mX3_firstMissingCall.2.1 20 = .ok (.iaload, 1) := by decide +kernel
theorem dX3_firstMissingCall_21 : decode mX3_firstMissingCall.2.1 21 = .ok (.iconst (-1), 1) := by decide +kernel
theorem dX3_firstMissingCall_22 : decode mX3_firstMissingCall.2.1 22 = .ok (.if_icmp .eq 25, 3) := by decide +kernel
theorem dX3_firstMissingCall_25 : decode mX3_firstMissingCall.2.1 25 = .ok (.iload_n 1, 1) := by decide +kernel
theorem dX3_firstMissingCall_26 : decode mX3_firstMissingCall.2.1 26 = .ok (.iconst (-1), 1) := by decide +kernel
theorem dX3_firstMissingCall_27 : decode mX3_firstMissingCall.2.1 27 = .ok (.if_icmp .eq 13, 3) := by decide +kernel
theorem dX3_firstMissingCall_30 : decode mX3_firstMissingCall.2.1 30 = .ok (.aload_n 0, 1) := by decide +kernel
theorem dX3_firstMissingCall_31 : decode mX3_firstMissingCall.2.1 31 = .ok (.getfield 18, 3) := by decide +kernel
theorem dX3_firstMissingCall_34 : decode mX3_firstMissingCall.2.1 34 = .ok (.iload_n 2, 1) := by decide +kernel
theorem dX3_firstMissingCall_35 : decode mX3_firstMissingCall.2.1 35 = .ok (.iaload, 1) := by decide +kernel
theorem dX3_firstMissingCall_36 : decode mX3_firstMissingCall.2.1 36 = .ok (.iload_n 1, 1) := by decide +kernel
theorem dX3_firstMissingCall_37 : decode mX3_firstMissingCall.2.1 37 = .ok (.if_icmp .ge 10, 3) := by decide +kernel
theorem dX3_firstMissingCall_40 : decode mX3_firstMissingCall.2.1 40 = .ok (.aload_n 0, 1) := by decide +kernel
theorem dX3_firstMissingCall_41 : decode mX3_firstMissingCall.2.1 41 = .ok (.getfield 18, 3) := by decide +kernel
theorem dX3_firstMissingCall_44 : decode mX3_firstMissingCall.2.1 44 = .ok (.iload_n 2, 1) := by decide +kernel
theorem dX3_firstMissingCall_45 : decode mX3_firstMissingCall.2.1 45 = .ok (.iaload, 1) := by decide +kernel
theorem dX3_firstMissingCall_46 : decode mX3_firstMissingCall.2.1 46 = .ok (.istore_n 1, 1) := by decide +kernel
theorem dX3_firstMissingCall_47 : decode mX3_firstMissingCall.2.1 47 = .ok (.iinc 2 1, 3) := by decide +kernel
theorem dX3_firstMissingCall_50 : decode mX3_firstMissingCall.2.1 50 = .ok (.goto (-40), 3) := by decide +kernel
theorem dX3_firstMissingCall_53 : decode mX3_firstMissingCall.2.1 53 = .ok (.iload_n 1, 1) := by decide +kernel
theorem dX3_firstMissingCall_54 : decode mX3_firstMissingCall.2.1 54 = .ok (.ireturn, 1) := by decide +kernel
theorem dX3_readMethod_0 : decode mX3_readMethod.2.1 0 = .ok (.aload_n 0, 1) := by decide +kernel
theorem dX3_readMethod_1 : decode mX3_readMethod.2.1 1 = .ok (.getfield 26, 3) := by decide +kernel
theorem dX3_readMethod_4 : decode mX3_readMethod.2.1 4 = .ok (.invokevirtual 66, 3) := by decide +kernel
theorem dX3_readMethod_7 : decode mX3_readMethod.2.1 7 = .ok (.aload_n 0, 1) := by decide +kernel
theorem dX3_readMethod_8 : decode mX3_readMethod.2.1 8 = .ok (.bipush 123, 2) := by decide +kernel
theorem dX3_readMethod_10 : decode mX3_readMethod.2.1 10 = .ok (.invokevirtual 57, 3) := by decide +kernel
theorem dX3_readMethod_13 : decode mX3_readMethod.2.1 13 = .ok (.iconst 0, 1) := by decide +kernel
theorem dX3_readMethod_14 : decode mX3_readMethod.2.1 14 = .ok (.istore_n 2, 1) := by decide +kernel
theorem dX3_readMethod_15 : decode mX3_readMethod.2.1 15 = .ok (.iload_n 2, 1) := by decide +kernel
theorem dX3_readMethod_16 : decode mX3_readMethod.2.1 16 = .ok (.bipush 8, 2) := by decide +kernel
theorem dX3_readMethod_18 : decode mX3_readMethod.2.1 18 = .ok (.if_icmp .ge 63, 3) := by decide +kernel
theorem dX3_readMethod_21 : decode mX3_readMethod.2.1 21 = .ok (.aload_n 0, 1) := by decide +kernel
theorem dX3_readMethod_22 : decode mX3_readMethod.2.1 22 = .ok (.getfield 30, 3) := by decide +kernel
theorem dX3_readMethod_25 : decode mX3_readMethod.2.1 25 = .ok (.iconst (-1), 1) := by decide +kernel
theorem dX3_readMethod_26 : decode mX3_readMethod.2.1 26 = .ok (.if_icmp .ne 55, 3) := by decide +kernel
theorem dX3_readMethod_29 : decode mX3_readMethod.2.1 29 = .ok (.aload_n 0, 1) := by decide +kernel
theorem dX3_readMethod_30 : decode mX3_readMethod.2.1 30 = .ok (.getfield 12, 3) := by decide +kernel
theorem dX3_readMethod_33 : decode mX3_readMethod.2.1 33 = .ok (.invokevirtual 49, 3) := by decide +kernel
theorem dX3_readMethod_36 : decode mX3_readMethod.2.1 36 = .ok (.bipush 125, 2) := by decide +kernel
theorem dX3_readMethod_38 : decode mX3_readMethod.2.1 38 = .ok (.if_icmp .eq 43, 3) := by decide +kernel
theorem dX3_readMethod_41 : decode mX3_readMethod.2.1 41 = .ok (.aload_n 0, 1) := by decide +kernel
theorem dX3_readMethod_42 : decode mX3_readMethod.2.1 42 = .ok (.iload_n 1, 1) := by decide +kernel
theorem dX3_readMethod_43 : decode mX3_readMethod.2.1 43 = .ok (.invokevirtual 69, 3) := by decide +kernel
theorem dX3_readMethod_46 : decode mX3_readMethod.2.1 46 = .ok (.aload_n 0, 1) := by decide +kernel
theorem dX3_readMethod_47 : decode mX3_readMethod.2.1 47 = .ok (.bipush 59, 2) := by decide +kernel
theorem dX3_readMethod_49 : decode mX3_readMethod.2.1 49 = .ok (.invokevirtual 57, 3) := by decide +kernel
theorem dX3_readMethod_52 : decode mX3_readMethod.2.1 52 = .ok (.aload_n 0, 1) := by decide +kernel
theorem dX3_readMethod_53 : decode mX3_readMethod.2.1 53 = .ok (.getfield 26, 3) := by decide +kernel
theorem dX3_readMethod_56 : decode mX3_readMethod.2.1 56 = .ok (.aload_n 0, 1) := by decide +kernel
theorem dX3_readMethod_57 : decode mX3_readMethod.2.1 57 = .ok (.getfield 72, 3) := by decide +kernel
theorem dX3_readMethod_60 : decode mX3_readMethod.2.1 60 = .ok (.aload_n 0, 1) := by decide +kernel
theorem dX3_readMethod_61 : decode mX3_readMethod.2.1 61 = .ok (.getfield 75, 3) := by decide +kernel
theorem dX3_readMethod_64 : decode mX3_readMethod.2.1 64 = .ok (.aload_n 0, 1) := by decide +kernel
theorem dX3_readMethod_65 : decode mX3_readMethod.2.1 65 = .ok (.getfield 78, 3) := by decide +kernel
theorem dX3_readMethod_68 : decode mX3_readMethod.2.1 68 = .ok (.aload_n 0, 1) := by decide +kernel
theorem dX3_readMethod_69 : decode mX3_readMethod.2.1 69 = .ok (.getfield 81, 3) := by decide +kernel
theorem dX3_readMethod_72 : decode mX3_readMethod.2.1 72 = .ok (.invokevirtual 84, 3) := by decide +kernel
theorem dX3_readMethod_75 : decode mX3_readMethod.2.1 75 = .ok (.iinc 2 1, 3) := by decide +kernel
theorem dX3_readMethod_78 : decode mX3_readMethod.2.1 78 = .ok (.goto (-63), 3) := by decide +kernel
theorem dX3_readMethod_81 : decode mX3_readMethod.2.1 81 = .ok (.aload_n 0, 1) := by decide +kernel
theorem dX3_readMethod_82 : decode mX3_readMethod.2.1 82 = .ok (.bipush 125, 2) := by decide +kernel
theorem dX3_readMethod_84 : decode mX3_readMethod.2.1 84 = .ok (.invokevirtual 57, 3) := by decide +kernel
theorem dX3_readMethod_87 : decode mX3_readMethod.2.1 87 = .ok (.return_, 1) := by decide +kernel
theorem dX3_readLine_0 : decode mX3_readLine.2.1 0 = .ok (.aload_n 0, 1) := by decide +kernel
theorem dX3_readLine_1 : decode mX3_readLine.2.1 1 = .ok (.iconst 0, 1) := by decide +kernel
theorem dX3_readLine_2 : decode mX3_readLine.2.1 2 = .ok (.putfield 78, 3) := by decide +kernel
theorem dX3_readLine_5 : decode mX3_readLine.2.1 5 = .ok (.aload_n 0, 1) := by decide +kernel
theorem dX3_readLine_6 : decode mX3_readLine.2.1 6 = .ok (.iconst 0, 1) := by decide +kernel
theorem dX3_readLine_7 : decode mX3_readLine.2.1 7 = .ok (.putfield 81, 3) := by decide +kernel
theorem dX3_readLine_10 : decode mX3_readLine.2.1 10 = .ok (.aload_n 0, 1) := by decide +kernel
theorem dX3_readLine_11 : decode mX3_readLine.2.1 11 = .ok (.getfield 12, 3) := by decide +kernel
theorem dX3_readLine_14 : decode mX3_readLine.2.1 14 = .ok (.invokevirtual 49, 3) := by decide +kernel
theorem dX3_readLine_17 : decode mX3_readLine.2.1 17 = .ok (.bipush 71, 2) := by decide +kernel
theorem dX3_readLine_19 : decode mX3_readLine.2.1 19 = .ok (.if_icmp .ne 31, 3) := by decide +kernel
theorem dX3_readLine_22 : decode mX3_readLine.2.1 22 = .ok (.aload_n 0, 1) := by decide +kernel
theorem dX3_readLine_23 : decode mX3_readLine.2.1 23 = .ok (.iconst 4, 1) := by decide +kernel
theorem dX3_readLine_24 : decode mX3_readLine.2.1 24 = .ok (.putfield 72, 3) := by decide +kernel
theorem dX3_readLine_27 : decode mX3_readLine.2.1 27 = .ok (.aload_n 0, 1) := by decide +kernel
theorem dX3_readLine_28 : decode mX3_readLine.2.1 28 = .ok (.bipush 71, 2) := by decide +kernel
theorem dX3_readLine_30 : decode mX3_readLine.2.1 30 = .ok (.invokevirtual 57, 3) := by decide +kernel
theorem dX3_readLine_33 : decode mX3_readLine.2.1 33 = .ok (.aload_n 0, 1) := by decide +kernel
theorem dX3_readLine_34 : decode mX3_readLine.2.1 34 = .ok (.bipush 61, 2) := by decide +kernel
theorem dX3_readLine_36 : decode mX3_readLine.2.1 36 = .ok (.invokevirtual 57, 3) := by decide +kernel
theorem dX3_readLine_39 : decode mX3_readLine.2.1 39 = .ok (.aload_n 0, 1) := by decide +kernel
theorem dX3_readLine_40 : decode mX3_readLine.2.1 40 = .ok (.aload_n 0, 1) := by decide +kernel
theorem dX3_readLine_41 : decode mX3_readLine.2.1 41 = .ok (.invokevirtual 88, 3) := by decide +kernel
theorem dX3_readLine_44 : decode mX3_readLine.2.1 44 = .ok (.putfield 75, 3) := by decide +kernel
theorem dX3_readLine_47 : decode mX3_readLine.2.1 47 = .ok (.goto 78, 3) := by decide +kernel
theorem dX3_readLine_50 : decode mX3_readLine.2.1 50 = .ok (.aload_n 0, 1) := by decide +kernel
theorem dX3_readLine_51 : decode mX3_readLine.2.1 51 = .ok (.getfield 12, 3) := by decide +kernel
theorem dX3_readLine_54 : decode mX3_readLine.2.1 54 = .ok (.invokevirtual 49, 3) := by decide +kernel
theorem dX3_readLine_57 : decode mX3_readLine.2.1 57 = .ok (.sipush 129, 3) := by decide +kernel
theorem dX3_readLine_60 : decode mX3_readLine.2.1 60 = .ok (.if_icmp .ne 27, 3) := by decide +kernel
theorem dX3_readLine_63 : decode mX3_readLine.2.1 63 = .ok (.aload_n 0, 1) := by decide +kernel
theorem dX3_readLine_64 : decode mX3_readLine.2.1 64 = .ok (.bipush 6, 2) := by decide +kernel
theorem dX3_readLine_66 : decode mX3_readLine.2.1 66 = .ok (.putfield 72, 3) := by decide +kernel
theorem dX3_readLine_69 : decode mX3_readLine.2.1 69 = .ok (.aload_n 0, 1) := by decide +kernel
theorem dX3_readLine_70 : decode mX3_readLine.2.1 70 = .ok (.sipush 129, 3) := by decide +kernel
theorem dX3_readLine_73 : decode mX3_readLine.2.1 73 = .ok (.invokevirtual 57, 3) := by decide +kernel
theorem dX3_readLine_76 : decode mX3_readLine.2.1 76 = .ok (.aload_n 0, 1) := by decide +kernel
theorem dX3_readLine_77 : decode mX3_readLine.2.1 77 = .ok (.aload_n 0, 1) := by decide +kernel
theorem dX3_readLine_78 : decode mX3_readLine.2.1 78 = .ok (.invokevirtual 88, 3) := by decide +kernel
theorem dX3_readLine_81 : decode mX3_readLine.2.1 81 = .ok (.putfield 75, 3) := by decide +kernel
theorem dX3_readLine_84 : decode mX3_readLine.2.1 84 = .ok (.goto 41, 3) := by decide +kernel
theorem dX3_readLine_87 : decode mX3_readLine.2.1 87 = .ok (.aload_n 0, 1) := by decide +kernel
theorem dX3_readLine_88 : decode mX3_readLine.2.1 88 = .ok (.aload_n 0, 1) := by decide +kernel
theorem dX3_readLine_89 : decode mX3_readLine.2.1 89 = .ok (.invokevirtual 88, 3) := by decide +kernel
theorem dX3_readLine_92 : decode mX3_readLine.2.1 92 = .ok (.putfield 75, 3) := by decide +kernel
theorem dX3_readLine_95 : decode mX3_readLine.2.1 95 = .ok (.aload_n 0, 1) := by decide +kernel
theorem dX3_readLine_96 : decode mX3_readLine.2.1 96 = .ok (.getfield 12, 3) := by decide +kernel
theorem dX3_readLine_99 : decode mX3_readLine.2.1 99 = .ok (.invokevirtual 49, 3) := by decide +kernel
theorem dX3_readLine_102 : decode mX3_readLine.2.1 102 = .ok (.bipush 46, 2) := by decide +kernel
theorem dX3_readLine_104 : decode mX3_readLine.2.1 104 = .ok (.if_icmp .ne 10, 3) := by decide +kernel
theorem dX3_readLine_107 : decode mX3_readLine.2.1 107 = .ok (.aload_n 0, 1) := by decide +kernel
theorem dX3_readLine_108 : decode mX3_readLine.2.1 108 = .ok (.invokevirtual 91, 3) := by decide +kernel
theorem dX3_readLine_111 : decode mX3_readLine.2.1 111 = .ok (.goto 14, 3) := by decide +kernel
theorem dX3_readLine_114 : decode mX3_readLine.2.1 114 = .ok (.aload_n 0, 1) := by decide +kernel
theorem dX3_readLine_115 : decode mX3_readLine.2.1 115 = .ok (.bipush 61, 2) := by decide +kernel
theorem dX3_readLine_117 : decode mX3_readLine.2.1 117 = .ok (.invokevirtual 57, 3) := by decide +kernel
theorem dX3_readLine_120 : decode mX3_readLine.2.1 120 = .ok (.aload_n 0, 1) := by decide +kernel
theorem dX3_readLine_121 : decode mX3_readLine.2.1 121 = .ok (.iload_n 1, 1) := by decide +kernel
theorem dX3_readLine_122 : decode mX3_readLine.2.1 122 = .ok (.invokevirtual 94, 3) := by decide +kernel
theorem dX3_readLine_125 : decode mX3_readLine.2.1 125 = .ok (.return_, 1) := by decide +kernel
theorem dX3_readPut_0 : decode mX3_readPut.2.1 0 = .ok (.aload_n 0, 1) := by decide +kernel
theorem dX3_readPut_1 : decode mX3_readPut.2.1 1 = .ok (.iconst 2, 1) := by decide +kernel
theorem dX3_readPut_2 : decode mX3_readPut.2.1 2 = .ok (.putfield 72, 3) := by decide +kernel
theorem dX3_readPut_5 : decode mX3_readPut.2.1 5 = .ok (.aload_n 0, 1) := by decide +kernel
theorem dX3_readPut_6 : decode mX3_readPut.2.1 6 = .ok (.bipush 46, 2) := by decide +kernel
theorem dX3_readPut_8 : decode mX3_readPut.2.1 8 = .ok (.invokevirtual 57, 3) := by decide +kernel
theorem dX3_readPut_11 : decode mX3_readPut.2.1 11 = .ok (.aload_n 0, 1) := by decide +kernel
theorem dX3_readPut_12 : decode mX3_readPut.2.1 12 = .ok (.bipush 102, 2) := by decide +kernel
theorem dX3_readPut_14 : decode mX3_readPut.2.1 14 = .ok (.invokevirtual 57, 3) := by decide +kernel
theorem dX3_readPut_17 : decode mX3_readPut.2.1 17 = .ok (.aload_n 0, 1) := by decide +kernel
theorem dX3_readPut_18 : decode mX3_readPut.2.1 18 = .ok (.bipush 61, 2) := by decide +kernel
theorem dX3_readPut_20 : decode mX3_readPut.2.1 20 = .ok (.invokevirtual 57, 3) := by decide +kernel
theorem dX3_readPut_23 : decode mX3_readPut.2.1 23 = .ok (.aload_n 0, 1) := by decide +kernel
theorem dX3_readPut_24 : decode mX3_readPut.2.1 24 = .ok (.aload_n 0, 1) := by decide +kernel
theorem dX3_readPut_25 : decode mX3_readPut.2.1 25 = .ok (.invokevirtual 88, 3) := by decide +kernel
theorem dX3_readPut_28 : decode mX3_readPut.2.1 28 = .ok (.putfield 78, 3) := by decide +kernel
theorem dX3_readPut_31 : decode mX3_readPut.2.1 31 = .ok (.return_, 1) := by decide +kernel
theorem dX3_readValue_0 : decode mX3_readValue.2.1 0 = .ok (.aload_n 0, 1) := by decide +kernel
theorem dX3_readValue_1 : decode mX3_readValue.2.1 1 = .ok (.getfield 12, 3) := by decide +kernel
theorem dX3_readValue_4 : decode mX3_readValue.2.1 4 = .ok (.invokevirtual 49, 3) := by decide +kernel
theorem dX3_readValue_7 : decode mX3_readValue.2.1 7 = .ok (.istore_n 2, 1) := by decide +kernel
theorem dX3_readValue_8 : decode mX3_readValue.2.1 8 = .ok (.iload_n 2, 1) := by decide +kernel
theorem dX3_readValue_9 : decode mX3_readValue.2.1 9 = .ok (.bipush 71, 2) := by decide +kernel
theorem dX3_readValue_11 : decode mX3_readValue.2.1 11 = .ok (.if_icmp .ne 17, 3) := by decide +kernel
theorem dX3_readValue_14 : decode mX3_readValue.2.1 14 = .ok (.aload_n 0, 1) := by decide +kernel
theorem dX3_readValue_15 : decode mX3_readValue.2.1 15 = .ok (.iconst 5, 1) := by decide +kernel
theorem dX3_readValue_16 : decode mX3_readValue.2.1 16 = .ok (.putfield 72, 3) := by decide +kernel
theorem dX3_readValue_19 : decode mX3_readValue.2.1 19 = .ok (.aload_n 0, 1) := by decide +kernel
theorem dX3_readValue_20 : decode mX3_readValue.2.1 20 = .ok (.bipush 71, 2) := by decide +kernel
theorem dX3_readValue_22 : decode mX3_readValue.2.1 22 = .ok (.invokevirtual 57, 3) := by decide +kernel
theorem dX3_readValue_25 : decode mX3_readValue.2.1 25 = .ok (.goto 127, 3) := by decide +kernel
theorem dX3_readValue_28 : decode mX3_readValue.2.1 28 = .ok (.iload_n 2, 1) := by decide +kernel
theorem dX3_readValue_29 : decode mX3_readValue.2.1 29 = .ok (.sipush 128, 3) := by decide +kernel
theorem dX3_readValue_32 : decode mX3_readValue.2.1 32 = .ok (.if_icmp .ne 18, 3) := by decide +kernel
theorem dX3_readValue_35 : decode mX3_readValue.2.1 35 = .ok (.aload_n 0, 1) := by decide +kernel
theorem dX3_readValue_36 : decode mX3_readValue.2.1 36 = .ok (.iconst 0, 1) := by decide +kernel
theorem dX3_readValue_37 : decode mX3_readValue.2.1 37 = .ok (.putfield 72, 3) := by decide +kernel
theorem dX3_readValue_40 : decode mX3_readValue.2.1 40 = .ok (.aload_n 0, 1) := by decide +kernel
theorem dX3_readValue_41 : decode mX3_readValue.2.1 41 = .ok (.sipush 128, 3) := by decide +kernel
theorem dX3_readValue_44 : decode mX3_readValue.2.1 44 = .ok (.invokevirtual 57, 3) := by decide +kernel
theorem dX3_readValue_47 : decode mX3_readValue.2.1 47 = .ok (.goto 105, 3) := by decide +kernel
theorem dX3_readValue_50 : decode mX3_readValue.2.1 50 = .ok (.iload_n 2, 1) := by decide +kernel
theorem dX3_readValue_51 : decode mX3_readValue.2.1 51 = .ok (.bipush 48, 2) := by decide +kernel
theorem dX3_readValue_53 : decode mX3_readValue.2.1 53 = .ok (.iload_n 1, 1) := by decide +kernel
theorem dX3_readValue_54 : decode mX3_readValue.2.1 54 = .ok (.iadd, 1) := by decide +kernel
theorem dX3_readValue_55 : decode mX3_readValue.2.1 55 = .ok (.if_icmp .le 55, 3) := by decide +kernel
theorem dX3_readValue_58 : decode mX3_readValue.2.1 58 = .ok (.iload_n 2, 1) := by decide +kernel
theorem dX3_readValue_59 : decode mX3_readValue.2.1 59 = .ok (.bipush 52, 2) := by decide +kernel
theorem dX3_readValue_61 : decode mX3_readValue.2.1 61 = .ok (.if_icmp .ge 49, 3) := by decide +kernel
theorem dX3_readValue_64 : decode mX3_readValue.2.1 64 = .ok (.aload_n 0, 1) := by decide +kernel
theorem dX3_readValue_65 : decode mX3_readValue.2.1 65 = .ok (.bipush 7, 2) := by decide +kernel
theorem dX3_readValue_67 : decode mX3_readValue.2.1 67 = .ok (.putfield 72, 3) := by decide +kernel
theorem dX3_readValue_70 : decode mX3_readValue.2.1 70 = .ok (.aload_n 0, 1) := by decide +kernel
theorem dX3_readValue_71 : decode mX3_readValue.2.1 71 = .ok (.iload_n 2, 1) := by decide +kernel
theorem dX3_readValue_72 : decode mX3_readValue.2.1 72 = .ok (.bipush 48, 2) := by decide +kernel
theorem dX3_readValue_74 : decode mX3_readValue.2.1 74 = .ok (.isub, 1) := by decide +kernel
theorem dX3_readValue_75 : decode mX3_readValue.2.1 75 = .ok (.putfield 81, 3) := by decide +kernel
theorem dX3_readValue_78 : decode mX3_readValue.2.1 78 = .ok (.aload_n 0, 1) := by decide +kernel
theorem dX3_readValue_79 : decode mX3_readValue.2.1 79 = .ok (.invokevirtual 97, 3) := by decide +kernel
theorem dX3_readValue_82 : decode mX3_readValue.2.1 82 = .ok (.aload_n 0, 1) := by decide +kernel
theorem dX3_readValue_83 : decode mX3_readValue.2.1 83 = .ok (.iload_n 2, 1) := by decide +kernel
theorem dX3_readValue_84 : decode mX3_readValue.2.1 84 = .ok (.invokevirtual 57, 3) := by decide +kernel
theorem dX3_readValue_87 : decode mX3_readValue.2.1 87 = .ok (.aload_n 0, 1) := by decide +kernel
theorem dX3_readValue_88 : decode mX3_readValue.2.1 88 = .ok (.bipush 40, 2) := by decide +kernel
theorem dX3_readValue_90 : decode mX3_readValue.2.1 90 = .ok (.invokevirtual 57, 3) := by decide +kernel
theorem dX3_readValue_93 : decode mX3_readValue.2.1 93 = .ok (.aload_n 0, 1) := by decide +kernel
theorem dX3_readValue_94 : decode mX3_readValue.2.1 94 = .ok (.aload_n 0, 1) := by decide +kernel
theorem dX3_readValue_95 : decode mX3_readValue.2.1 95 = .ok (.invokevirtual 88, 3) := by decide +kernel
theorem dX3_readValue_98 : decode mX3_readValue.2.1 98 = .ok (.putfield 78, 3) := by decide +kernel
theorem dX3_readValue_101 : decode mX3_readValue.2.1 101 = .ok (.aload_n 0, 1) := by decide +kernel
theorem dX3_readValue_102 : decode mX3_readValue.2.1 102 = .ok (.bipush 41, 2) := by decide +kernel
theorem dX3_readValue_104 : decode mX3_readValue.2.1 104 = .ok (.invokevirtual 57, 3) := by decide +kernel
theorem dX3_readValue_107 : decode mX3_readValue.2.1 107 = .ok (.goto 45, 3) := by decide +kernel
theorem dX3_readValue_110 : decode mX3_readValue.2.1 110 = .ok (.aload_n 0, 1) := by decide +kernel
theorem dX3_readValue_111 : decode mX3_readValue.2.1 111 = .ok (.iconst 1, 1) := by decide +kernel
theorem dX3_readValue_112 : decode mX3_readValue.2.1 112 = .ok (.putfield 72, 3) := by decide +kernel
theorem dX3_readValue_115 : decode mX3_readValue.2.1 115 = .ok (.aload_n 0, 1) := by decide +kernel
theorem dX3_readValue_116 : decode mX3_readValue.2.1 116 = .ok (.aload_n 0, 1) := by decide +kernel
theorem dX3_readValue_117 : decode mX3_readValue.2.1 117 = .ok (.invokevirtual 88, 3) := by decide +kernel
theorem dX3_readValue_120 : decode mX3_readValue.2.1 120 = .ok (.putfield 78, 3) := by decide +kernel
theorem dX3_readValue_123 : decode mX3_readValue.2.1 123 = .ok (.aload_n 0, 1) := by decide +kernel
theorem dX3_readValue_124 : decode mX3_readValue.2.1 124 = .ok (.getfield 12, 3) := by decide +kernel
theorem dX3_readValue_127 : decode mX3_readValue.2.1 127 = .ok (.invokevirtual 49, 3) := by decide +kernel
theorem dX3_readValue_130 : decode mX3_readValue.2.1 130 = .ok (.bipush 46, 2) := by decide +kernel
theorem dX3_readValue_132 : decode mX3_readValue.2.1 132 = .ok (.if_icmp .ne 20, 3) := by decide +kernel
theorem dX3_readValue_135 : decode mX3_readValue.2.1 135 = .ok (.aload_n 0, 1) := by decide +kernel
theorem dX3_readValue_136 : decode mX3_readValue.2.1 136 = .ok (.iconst 3, 1) := by decide +kernel
theorem dX3_readValue_137 : decode mX3_readValue.2.1 137 = .ok (.putfield 72, 3) := by decide +kernel
theorem dX3_readValue_140 : decode mX3_readValue.2.1 140 = .ok (.aload_n 0, 1) := by decide +kernel
theorem dX3_readValue_141 : decode mX3_readValue.2.1 141 = .ok (.bipush 46, 2) := by decide +kernel
theorem dX3_readValue_143 : decode mX3_readValue.2.1 143 = .ok (.invokevirtual 57, 3) := by decide +kernel
theorem dX3_readValue_146 : decode mX3_readValue.2.1 146 = .ok (.aload_n 0, 1) := by decide +kernel
theorem dX3_readValue_147 : decode mX3_readValue.2.1 147 = .ok (.bipush 102, 2) := by decide +kernel
theorem dX3_readValue_149 : decode mX3_readValue.2.1 149 = .ok (.invokevirtual 57, 3) := by decide +kernel
theorem dX3_readValue_152 : decode mX3_readValue.2.1 152 = .ok (.return_, 1) := by decide +kernel
theorem dX3_noteCall_0 : decode mX3_noteCall.2.1 0 = .ok (.aload_n 0, 1) := by decide +kernel
theorem dX3_noteCall_1 : decode mX3_noteCall.2.1 1 = .ok (.getfield 81, 3) := by decide +kernel
theorem dX3_noteCall_4 : decode mX3_noteCall.2.1 4 = .ok (.iconst 4, 1) := by decide +kernel
theorem dX3_noteCall_5 : decode mX3_noteCall.2.1 5 = .ok (.invokestatic 100, 3) := by decide +kernel
theorem dX3_noteCall_8 : decode mX3_noteCall.2.1 8 = .ok (.ifCond .ne 32, 3) := by decide +kernel
theorem dX3_noteCall_11 : decode mX3_noteCall.2.1 11 = .ok (.aload_n 0, 1) := by decide +kernel
theorem dX3_noteCall_12 : decode mX3_noteCall.2.1 12 = .ok (.getfield 18, 3) := by decide +kernel
theorem dX3_noteCall_15 : decode mX3_noteCall.2.1 15 = .ok (.aload_n 0, 1) := by decide +kernel
theorem dX3_noteCall_16 : decode mX3_noteCall.2.1 16 = .ok (.getfield 81, 3) := by decide +kernel
theorem dX3_noteCall_19 : decode mX3_noteCall.2.1 19 = .ok (.iaload, 1) := by decide +kernel
theorem dX3_noteCall_20 : decode mX3_noteCall.2.1 20 = .ok (.iconst (-1), 1) := by decide +kernel
theorem dX3_noteCall_21 : decode mX3_noteCall.2.1 21 = .ok (.if_icmp .ne 19, 3) := by decide +kernel
theorem dX3_noteCall_24 : decode mX3_noteCall.2.1 24 = .ok (.aload_n 0, 1) := by decide +kernel
theorem dX3_noteCall_25 : decode mX3_noteCall.2.1 25 = .ok (.getfield 18, 3) := by decide +kernel
theorem dX3_noteCall_28 : decode mX3_noteCall.2.1 28 = .ok (.aload_n 0, 1) := by decide +kernel
theorem dX3_noteCall_29 : decode mX3_noteCall.2.1 29 = .ok (.getfield 81, 3) := by decide +kernel
theorem dX3_noteCall_32 : decode mX3_noteCall.2.1 32 = .ok (.aload_n 0, 1) := by decide +kernel
theorem dX3_noteCall_33 : decode mX3_noteCall.2.1 33 = .ok (.getfield 12, 3) := by decide +kernel
theorem dX3_noteCall_36 : decode mX3_noteCall.2.1 36 = .ok (.invokevirtual 104, 3) := by decide +kernel
theorem dX3_noteCall_39 : decode mX3_noteCall.2.1 39 = .ok (.iastore, 1) := by decide +kernel
theorem dX3_noteCall_40 : decode mX3_noteCall.2.1 40 = .ok (.return_, 1) := by decide +kernel
theorem dX3_take_0 : decode mX3_take.2.1 0 = .ok (.aload_n 0, 1) := by decide +kernel
theorem dX3_take_1 : decode mX3_take.2.1 1 = .ok (.getfield 12, 3) := by decide +kernel
theorem dX3_take_4 : decode mX3_take.2.1 4 = .ok (.invokevirtual 49, 3) := by decide +kernel
theorem dX3_take_7 : decode mX3_take.2.1 7 = .ok (.iload_n 1, 1) := by decide +kernel
theorem dX3_take_8 : decode mX3_take.2.1 8 = .ok (.if_icmp .ne 13, 3) := by decide +kernel
theorem dX3_take_11 : decode mX3_take.2.1 11 = .ok (.aload_n 0, 1) := by decide +kernel
theorem dX3_take_12 : decode mX3_take.2.1 12 = .ok (.getfield 12, 3) := by decide +kernel
theorem dX3_take_15 : decode mX3_take.2.1 15 = .ok (.invokevirtual 107, 3) := by decide +kernel
theorem dX3_take_18 : decode mX3_take.2.1 18 = .ok (.goto 7, 3) := by decide +kernel
theorem dX3_take_21 : decode mX3_take.2.1 21 = .ok (.aload_n 0, 1) := by decide +kernel
theorem dX3_take_22 : decode mX3_take.2.1 22 = .ok (.invokevirtual 110, 3) := by decide +kernel
theorem dX3_take_25 : decode mX3_take.2.1 25 = .ok (.return_, 1) := by decide +kernel
theorem dX3_refuse_0 : decode mX3_refuse.2.1 0 = .ok (.aload_n 0, 1) := by decide +kernel
theorem dX3_refuse_1 : decode mX3_refuse.2.1 1 = .ok (.getfield 30, 3) := by decide +kernel
theorem dX3_refuse_4 : decode mX3_refuse.2.1 4 = .ok (.iconst (-1), 1) := by decide +kernel
theorem dX3_refuse_5 : decode mX3_refuse.2.1 5 = .ok (.if_icmp .ne 14, 3) := by decide +kernel
theorem dX3_refuse_8 : decode mX3_refuse.2.1 8 = .ok (.aload_n 0, 1) := by decide +kernel
theorem dX3_refuse_9 : decode mX3_refuse.2.1 9 = .ok (.aload_n 0, 1) := by decide +kernel
theorem dX3_refuse_10 : decode mX3_refuse.2.1 10 = .ok (.getfield 12, 3) := by decide +kernel
theorem dX3_refuse_13 : decode mX3_refuse.2.1 13 = .ok (.invokevirtual 104, 3) := by decide +kernel
theorem dX3_refuse_16 : decode mX3_refuse.2.1 16 = .ok (.putfield 30, 3) := by decide +kernel
theorem dX3_refuse_19 : decode mX3_refuse.2.1 19 = .ok (.return_, 1) := by decide +kernel
theorem dX3_takeName_0 : decode mX3_takeName.2.1 0 = .ok (.aload_n 0, 1) := by decide +kernel
theorem dX3_takeName_1 : decode mX3_takeName.2.1 1 = .ok (.getfield 12, 3) := by decide +kernel
theorem dX3_takeName_4 : decode mX3_takeName.2.1 4 = .ok (.invokevirtual 49, 3) := by decide +kernel
theorem dX3_takeName_7 : decode mX3_takeName.2.1 7 = .ok (.invokestatic 113, 3) := by decide +kernel
theorem dX3_takeName_10 : decode mX3_takeName.2.1 10 = .ok (.istore_n 1, 1) := by decide +kernel
theorem dX3_takeName_11 : decode mX3_takeName.2.1 11 = .ok (.iload_n 1, 1) := by decide +kernel
theorem dX3_takeName_12 : decode mX3_takeName.2.1 12 = .ok (.iconst (-1), 1) := by decide +kernel
theorem dX3_takeName_13 : decode mX3_takeName.2.1 13 = .ok (.if_icmp .ne 9, 3) := by decide +kernel
theorem dX3_takeName_16 : decode mX3_takeName.2.1 16 = .ok (.aload_n 0, 1) := by decide +kernel
theorem dX3_takeName_17 : decode mX3_takeName.2.1 17 = .ok (.invokevirtual 110, 3) := by decide +kernel
theorem dX3_takeName_20 : decode mX3_takeName.2.1 20 = .ok (.iconst 0, 1) := by decide +kernel
theorem dX3_takeName_21 : decode mX3_takeName.2.1 21 = .ok (.ireturn, 1) := by decide +kernel
theorem dX3_takeName_22 : decode mX3_takeName.2.1 22 = .ok (.aload_n 0, 1) := by decide +kernel
theorem dX3_takeName_23 : decode mX3_takeName.2.1 23 = .ok (.getfield 12, 3) := by decide +kernel
theorem dX3_takeName_26 : decode mX3_takeName.2.1 26 = .ok (.invokevirtual 107, 3) := by decide +kernel
theorem dX3_takeName_29 : decode mX3_takeName.2.1 29 = .ok (.iload_n 1, 1) := by decide +kernel
theorem dX3_takeName_30 : decode mX3_takeName.2.1 30 = .ok (.ireturn, 1) := by decide +kernel
theorem dX3_nameOf_0 : decode mX3_nameOf.2.1 0 = .ok (.iload_n 0, 1) := by decide +kernel
theorem dX3_nameOf_1 : decode mX3_nameOf.2.1 1 = .ok (.lookupswitch 51 #[(97, 45), (98, 47), (112, 43), (114, 49)], 43) := by decide +kernel
theorem dX3_nameOf_44 : decode mX3_nameOf.2.1 44 = .ok (.iconst 0, 1) := by decide +kernel
theorem dX3_nameOf_45 : decode mX3_nameOf.2.1 45 = .ok (.ireturn, 1) := by decide +kernel
theorem dX3_nameOf_46 : decode mX3_nameOf.2.1 46 = .ok (.iconst 1, 1) := by decide +kernel
theorem dX3_nameOf_47 : decode mX3_nameOf.2.1 47 = .ok (.ireturn, 1) := by decide +kernel
theorem dX3_nameOf_48 : decode mX3_nameOf.2.1 48 = .ok (.iconst 2, 1) := by decide +kernel
theorem dX3_nameOf_49 : decode mX3_nameOf.2.1 49 = .ok (.ireturn, 1) := by decide +kernel
theorem dX3_nameOf_50 : decode mX3_nameOf.2.1 50 = .ok (.iconst 3, 1) := by decide +kernel
theorem dX3_nameOf_51 : decode mX3_nameOf.2.1 51 = .ok (.ireturn, 1) := by decide +kernel
theorem dX3_nameOf_52 : decode mX3_nameOf.2.1 52 = .ok (.iconst (-1), 1) := by decide +kernel
theorem dX3_nameOf_53 : decode mX3_nameOf.2.1 53 = .ok (.ireturn, 1) := by decide +kernel
theorem dX4_init_0 : decode mX4_init.2.1 0 = .ok (.aload_n 0, 1) := by decide +kernel
theorem dX4_init_1 : decode mX4_init.2.1 1 = .ok (.invokespecial 3, 3) := by decide +kernel
theorem dX4_init_4 : decode mX4_init.2.1 4 = .ok (.aload_n 0, 1) := by decide +kernel
theorem dX4_init_5 : decode mX4_init.2.1 5 = .ok (.bipush 32, 2) := by decide +kernel
theorem dX4_init_7 : decode mX4_init.2.1 7 = .ok (.newarray .int, 2) := by decide +kernel
theorem dX4_init_9 : decode mX4_init.2.1 9 = .ok (.putfield 9, 3) := by decide +kernel
theorem dX4_init_12 : decode mX4_init.2.1 12 = .ok (.aload_n 0, 1) := by decide +kernel
theorem dX4_init_13 : decode mX4_init.2.1 13 = .ok (.bipush 32, 2) := by decide +kernel
theorem dX4_init_15 : decode mX4_init.2.1 15 = .ok (.newarray .int, 2) := by decide +kernel
theorem dX4_init_17 : decode mX4_init.2.1 17 = .ok (.putfield 15, 3) := by decide +kernel
theorem dX4_init_20 : decode mX4_init.2.1 20 = .ok (.aload_n 0, 1) := by decide +kernel
theorem dX4_init_21 : decode mX4_init.2.1 21 = .ok (.iconst 4, 1) := by decide +kernel
theorem dX4_init_22 : decode mX4_init.2.1 22 = .ok (.newarray .int, 2) := by decide +kernel
theorem dX4_init_24 : decode mX4_init.2.1 24 = .ok (.putfield 18, 3) := by decide +kernel
theorem dX4_init_27 : decode mX4_init.2.1 27 = .ok (.return_, 1) := by decide +kernel
theorem dX4_count_0 : decode mX4_count.2.1 0 = .ok (.aload_n 0, 1) := by decide +kernel
theorem dX4_count_1 : decode mX4_count.2.1 1 = .ok (.getfield 21, 3) := by decide +kernel
theorem dX4_count_4 : decode mX4_count.2.1 4 = .ok (.ireturn, 1) := by decide +kernel
theorem dX4_methodOf_0 : decode mX4_methodOf.2.1 0 = .ok (.iload_n 1, 1) := by decide +kernel
theorem dX4_methodOf_1 : decode mX4_methodOf.2.1 1 = .ok (.aload_n 0, 1) := by decide +kernel
theorem dX4_methodOf_2 : decode mX4_methodOf.2.1 2 = .ok (.getfield 21, 3) := by decide +kernel
theorem dX4_methodOf_5 : decode mX4_methodOf.2.1 5 = .ok (.invokestatic 25, 3) := by decide +kernel
theorem dX4_methodOf_8 : decode mX4_methodOf.2.1 8 = .ok (.ifCond .eq 7, 3) := by decide +kernel
theorem dX4_methodOf_11 : decode mX4_methodOf.2.1 11 = .ok (.iconst (-1), 1) := by decide +kernel
theorem dX4_methodOf_12 : decode mX4_methodOf.2.1 12 = .ok (.goto 12, 3) := by decide +kernel
theorem dX4_methodOf_15 : decode mX4_methodOf.2.1 15 = .ok (.aload_n 0, 1) := by decide +kernel
theorem dX4_methodOf_16 : decode mX4_methodOf.2.1 16 = .ok (.getfield 9, 3) := by decide +kernel
theorem dX4_methodOf_19 : decode mX4_methodOf.2.1 19 = .ok (.iload_n 1, 1) := by decide +kernel
theorem dX4_methodOf_20 : decode mX4_methodOf.2.1 20 = .ok (.iaload, 1) := by decide +kernel
theorem dX4_methodOf_21 : decode mX4_methodOf.2.1 21 = .ok (.bipush 8, 2) := by decide +kernel
theorem dX4_methodOf_23 : decode mX4_methodOf.2.1 23 = .ok (.idiv, 1) := by decide +kernel
theorem dX4_methodOf_24 : decode mX4_methodOf.2.1 24 = .ok (.ireturn, 1) := by decide +kernel
theorem dX4_lineOf_0 : decode mX4_lineOf.2.1 0 = .ok (.iload_n 1, 1) := by decide +kernel
theorem dX4_lineOf_1 : decode mX4_lineOf.2.1 1 = .ok (.aload_n 0, 1) := by decide +kernel
theorem dX4_lineOf_2 : decode mX4_lineOf.2.1 2 = .ok (.getfield 21, 3) := by decide +kernel
theorem dX4_lineOf_5 : decode mX4_lineOf.2.1 5 = .ok (.invokestatic 25, 3) := by decide +kernel
theorem dX4_lineOf_8 : decode mX4_lineOf.2.1 8 = .ok (.ifCond .eq 7, 3) := by decide +kernel
theorem dX4_lineOf_11 : decode mX4_lineOf.2.1 11 = .ok (.iconst (-1), 1) := by decide +kernel
theorem dX4_lineOf_12 : decode mX4_lineOf.2.1 12 = .ok (.goto 12, 3) := by decide +kernel
theorem dX4_lineOf_15 : decode mX4_lineOf.2.1 15 = .ok (.aload_n 0, 1) := by decide +kernel
theorem dX4_lineOf_16 : decode mX4_lineOf.2.1 16 = .ok (.getfield 9, 3) := by decide +kernel
theorem dX4_lineOf_19 : decode mX4_lineOf.2.1 19 = .ok (.iload_n 1, 1) := by decide +kernel
theorem dX4_lineOf_20 : decode mX4_lineOf.2.1 20 = .ok (.iaload, 1) := by decide +kernel
theorem dX4_lineOf_21 : decode mX4_lineOf.2.1 21 = .ok (.bipush 8, 2) := by decide +kernel
theorem dX4_lineOf_23 : decode mX4_lineOf.2.1 23 = .ok (.irem, 1) := by decide +kernel
theorem dX4_lineOf_24 : decode mX4_lineOf.2.1 24 = .ok (.ireturn, 1) := by decide +kernel
theorem dX4_inMethod_0 : decode mX4_inMethod.2.1 0 = .ok (.iload_n 1, 1) := by decide +kernel
theorem dX4_inMethod_1 : decode mX4_inMethod.2.1 1 = .ok (.iconst 4, 1) := by decide +kernel
theorem dX4_inMethod_2 : decode mX4_inMethod.2.1 2 = .ok (.invokestatic 25, 3) := by decide +kernel
theorem dX4_inMethod_5 : decode mX4_inMethod.2.1 5 = .ok (.ifCond .eq 7, 3) := by decide +kernel
theorem dX4_inMethod_8 : decode mX4_inMethod.2.1 8 = .ok (.iconst 0, 1) := by decide +kernel
theorem dX4_inMethod_9 : decode mX4_inMethod.2.1 9 = .ok (.goto 9, 3) := by decide +kernel
theorem dX4_inMethod_12 : decode mX4_inMethod.2.1 12 = .ok (.aload_n 0, 1) := by decide +kernel
theorem dX4_inMethod_13 : decode mX4_inMethod.2.1 13 = .ok (.getfield 18, 3) := by decide +kernel
theorem dX4_inMethod_16 : decode mX4_inMethod.2.1 16 = .ok (.iload_n 1, 1) := by decide +kernel
theorem dX4_inMethod_17 : decode mX4_inMethod.2.1 17 = .ok (.iaload, 1) := by decide +kernel
theorem dX4_inMethod_18 : decode mX4_inMethod.2.1 18 = .ok (.ireturn, 1) := by decide +kernel
theorem dX4_ofLine_0 : decode mX4_ofLine.2.1 0 = .ok (.iload_n 1, 1) := by decide +kernel
theorem dX4_ofLine_1 : decode mX4_ofLine.2.1 1 = .ok (.iconst 4, 1) := by decide +kernel
theorem dX4_ofLine_2 : decode mX4_ofLine.2.1 2 = .ok (.invokestatic 25, 3) := by decide +kernel
theorem dX4_ofLine_5 : decode mX4_ofLine.2.1 5 = .ok (.ifCond .ne 12, 3) := by decide +kernel
theorem dX4_ofLine_8 : decode mX4_ofLine.2.1 8 = .ok (.iload_n 2, 1) := by decide +kernel
theorem dX4_ofLine_9 : decode mX4_ofLine.2.1 9 = .ok (.bipush 8, 2) := by decide +kernel
theorem dX4_ofLine_11 : decode mX4_ofLine.2.1 11 = .ok (.invokestatic 25, 3) := by decide +kernel
theorem dX4_ofLine_14 : decode mX4_ofLine.2.1 14 = .ok (.ifCond .eq 7, 3) := by decide +kernel
theorem dX4_ofLine_17 : decode mX4_ofLine.2.1 17 = .ok (.iconst (-1), 1) := by decide +kernel
theorem dX4_ofLine_18 : decode mX4_ofLine.2.1 18 = .ok (.goto 14, 3) := by decide +kernel
theorem dX4_ofLine_21 : decode mX4_ofLine.2.1 21 = .ok (.aload_n 0, 1) := by decide +kernel
theorem dX4_ofLine_22 : decode mX4_ofLine.2.1 22 = .ok (.getfield 15, 3) := by decide +kernel
theorem dX4_ofLine_25 : decode mX4_ofLine.2.1 25 = .ok (.iload_n 1, 1) := by decide +kernel
theorem dX4_ofLine_26 : decode mX4_ofLine.2.1 26 = .ok (.bipush 8, 2) := by decide +kernel
theorem dX4_ofLine_28 : decode mX4_ofLine.2.1 28 = .ok (.imul, 1) := by decide +kernel
theorem dX4_ofLine_29 : decode mX4_ofLine.2.1 29 = .ok (.iload_n 2, 1) := by decide +kernel
theorem dX4_ofLine_30 : decode mX4_ofLine.2.1 30 = .ok (.iadd, 1) := by decide +kernel
theorem dX4_ofLine_31 : decode mX4_ofLine.2.1 31 = .ok (.iaload, 1) := by decide +kernel
theorem dX4_ofLine_32 : decode mX4_ofLine.2.1 32 = .ok (.ireturn, 1) := by decide +kernel
theorem dX4_number_0 : decode mX4_number.2.1 0 = .ok (.aload_n 0, 1) := by decide +kernel
theorem dX4_number_1 : decode mX4_number.2.1 1 = .ok (.iconst 0, 1) := by decide +kernel
theorem dX4_number_2 : decode mX4_number.2.1 2 = .ok (.putfield 21, 3) := by decide +kernel
theorem dX4_number_5 : decode mX4_number.2.1 5 = .ok (.aload_n 0, 1) := by decide +kernel
theorem dX4_number_6 : decode mX4_number.2.1 6 = .ok (.getfield 15, 3) := by decide +kernel
theorem dX4_number_9 : decode mX4_number.2.1 9 = .ok (.iconst (-1), 1) := by decide +kernel
theorem dX4_number_10 : decode mX4_number.2.1 10 = .ok (.invokestatic 29, 3) := by decide +kernel
theorem dX4_number_13 : decode mX4_number.2.1 13 = .ok (.aload_n 0, 1) := by decide +kernel
theorem dX4_number_14 : decode mX4_number.2.1 14 = .ok (.getfield 18, 3) := by decide +kernel
theorem dX4_number_17 : decode mX4_number.2.1 17 = .ok (.iconst 0, 1) := by decide +kernel
theorem dX4_number_18 : decode mX4_number.2.1 18 = .ok (.invokestatic 29, 3) := by decide +kernel
theorem dX4_number_21 : decode mX4_number.2.1 21 = .ok (.iconst 0, 1) := by decide +kernel
theorem dX4_number_22 : decode mX4_number.2.1 22 = .ok (.istore_n 2, 1) := by decide +kernel
theorem dX4_number_23 : decode mX4_number.2.1 23 = .ok (.iload_n 2, 1) := by decide +kernel
theorem dX4_number_24 : decode mX4_number.2.1 24 = .ok (.aload_n 1, 1) := by decide +kernel
theorem dX4_number_25 : decode mX4_number.2.1 25 = .ok (.invokevirtual 35, 3) := by decide +kernel
theorem dX4_number_28 : decode mX4_number.2.1 28 = .ok (.if_icmp .ge 41, 3) := by decide +kernel
theorem dX4_number_31 : decode mX4_number.2.1 31 = .ok (.iconst 0, 1) := by decide +kernel
theorem dX4_number_32 : decode mX4_number.2.1 32 = .ok (.istore_n 3, 1) := by decide +kernel
theorem dX4_number_33 : decode mX4_number.2.1 33 = .ok (.iload_n 3, 1) := by decide +kernel
theorem dX4_number_34 : decode mX4_number.2.1 34 = .ok (.aload_n 1, 1) := by decide +kernel
theorem dX4_number_35 : decode mX4_number.2.1 35 = .ok (.iload_n 2, 1) := by decide +kernel
theorem dX4_number_36 : decode mX4_number.2.1 36 = .ok (.invokevirtual 40, 3) := by decide +kernel
theorem dX4_number_39 : decode mX4_number.2.1 39 = .ok (.if_icmp .ge 24, 3) := by decide +kernel
theorem dX4_number_42 : decode mX4_number.2.1 42 = .ok (.aload_n 1, 1) := by decide +kernel
theorem dX4_number_43 : decode mX4_number.2.1 43 = .ok (.iload_n 2, 1) := by decide +kernel
theorem dX4_number_44 : decode mX4_number.2.1 44 = .ok (.iload_n 3, 1) := by decide +kernel
theorem dX4_number_45 : decode mX4_number.2.1 45 = .ok (.invokevirtual 44, 3) := by decide +kernel
theorem dX4_number_48 : decode mX4_number.2.1 48 = .ok (.ifCond .ne 9, 3) := by decide +kernel
theorem dX4_number_51 : decode mX4_number.2.1 51 = .ok (.aload_n 0, 1) := by decide +kernel
theorem dX4_number_52 : decode mX4_number.2.1 52 = .ok (.iload_n 2, 1) := by decide +kernel
theorem dX4_number_53 : decode mX4_number.2.1 53 = .ok (.iload_n 3, 1) := by decide +kernel
theorem dX4_number_54 : decode mX4_number.2.1 54 = .ok (.invokevirtual 48, 3) := by decide +kernel
theorem dX4_number_57 : decode mX4_number.2.1 57 = .ok (.iinc 3 1, 3) := by decide +kernel
theorem dX4_number_60 : decode mX4_number.2.1 60 = .ok (.goto (-27), 3) := by decide +kernel
theorem dX4_number_63 : decode mX4_number.2.1 63 = .ok (.iinc 2 1, 3) := by decide +kernel
theorem dX4_number_66 : decode mX4_number.2.1 66 = .ok (.goto (-43), 3) := by decide +kernel
theorem dX4_number_69 : decode mX4_number.2.1 69 = .ok (.return_, 1) := by decide +kernel
theorem dX4_add_0 : decode mX4_add.2.1 0 = .ok (.aload_n 0, 1) := by decide +kernel
theorem dX4_add_1 : decode mX4_add.2.1 1 = .ok (.getfield 21, 3) := by decide +kernel
theorem dX4_add_4 : decode mX4_add.2.1 4 = .ok (.bipush 32, 2) := by decide +kernel
theorem dX4_add_6 : decode mX4_add.2.1 6 = .ok (.if_icmp .ge 53, 3) := by decide +kernel
theorem dX4_add_9 : decode mX4_add.2.1 9 = .ok (.aload_n 0, 1) := by decide +kernel
theorem dX4_add_10 : decode mX4_add.2.1 10 = .ok (.getfield 9, 3) := by decide +kernel
theorem dX4_add_13 : decode mX4_add.2.1 13 = .ok (.aload_n 0, 1) := by decide +kernel
theorem dX4_add_14 : decode mX4_add.2.1 14 = .ok (.getfield 21, 3) := by decide +kernel
theorem dX4_add_17 : decode mX4_add.2.1 17 = .ok (.iload_n 1, 1) := by decide +kernel
theorem dX4_add_18 : decode mX4_add.2.1 18 = .ok (.bipush 8, 2) := by decide +kernel
theorem dX4_add_20 : decode mX4_add.2.1 20 = .ok (.imul, 1) := by decide +kernel
theorem dX4_add_21 : decode mX4_add.2.1 21 = .ok (.iload_n 2, 1) := by decide +kernel
theorem dX4_add_22 : decode mX4_add.2.1 22 = .ok (.iadd, 1) := by decide +kernel
theorem dX4_add_23 : decode mX4_add.2.1 23 = .ok (.iastore, 1) := by decide +kernel
theorem dX4_add_24 : decode mX4_add.2.1 24 = .ok (.aload_n 0, 1) := by decide +kernel
theorem dX4_add_25 : decode mX4_add.2.1 25 = .ok (.getfield 15, 3) := by decide +kernel
theorem dX4_add_28 : decode mX4_add.2.1 28 = .ok (.iload_n 1, 1) := by decide +kernel
theorem dX4_add_29 : decode mX4_add.2.1 29 = .ok (.bipush 8, 2) := by decide +kernel
theorem dX4_add_31 : decode mX4_add.2.1 31 = .ok (.imul, 1) := by decide +kernel
theorem dX4_add_32 : decode mX4_add.2.1 32 = .ok (.iload_n 2, 1) := by decide +kernel
theorem dX4_add_33 : decode mX4_add.2.1 33 = .ok (.iadd, 1) := by decide +kernel
theorem dX4_add_34 : decode mX4_add.2.1 34 = .ok (.aload_n 0, 1) := by decide +kernel
theorem dX4_add_35 : decode mX4_add.2.1 35 = .ok (.getfield 21, 3) := by decide +kernel
theorem dX4_add_38 : decode mX4_add.2.1 38 = .ok (.iastore, 1) := by decide +kernel
theorem dX4_add_39 : decode mX4_add.2.1 39 = .ok (.aload_n 0, 1) := by decide +kernel
theorem dX4_add_40 : decode mX4_add.2.1 40 = .ok (.getfield 18, 3) := by decide +kernel
theorem dX4_add_43 : decode mX4_add.2.1 43 = .ok (.iload_n 1, 1) := by decide +kernel
theorem dX4_add_44 : decode mX4_add.2.1 44 = .ok (.dup2, 1) := by decide +kernel
theorem dX4_add_45 : decode mX4_add.2.1 45 = .ok (.iaload, 1) := by decide +kernel
theorem dX4_add_46 : decode mX4_add.2.1 46 = .ok (.iconst 1, 1) := by decide +kernel
theorem dX4_add_47 : decode mX4_add.2.1 47 = .ok (.iadd, 1) := by decide +kernel
theorem dX4_add_48 : decode mX4_add.2.1 48 = .ok (.iastore, 1) := by decide +kernel
theorem dX4_add_49 : decode mX4_add.2.1 49 = .ok (.aload_n 0, 1) := by decide +kernel
theorem dX4_add_50 : decode mX4_add.2.1 50 = .ok (.dup, 1) := by decide +kernel
theorem dX4_add_51 : decode mX4_add.2.1 51 = .ok (.getfield 21, 3) := by decide +kernel
theorem dX4_add_54 : decode mX4_add.2.1 54 = .ok (.iconst 1, 1) := by decide +kernel
theorem dX4_add_55 : decode mX4_add.2.1 55 = .ok (.iadd, 1) := by decide +kernel
theorem dX4_add_56 : decode mX4_add.2.1 56 = .ok (.putfield 21, 3) := by decide +kernel
theorem dX4_add_59 : decode mX4_add.2.1 59 = .ok (.return_, 1) := by decide +kernel
theorem dX5_init_0 : decode mX5_init.2.1 0 = .ok (.aload_n 0, 1) := by decide +kernel
theorem dX5_init_1 : decode mX5_init.2.1 1 = .ok (.invokespecial 3, 3) := by decide +kernel
theorem dX5_init_4 : decode mX5_init.2.1 4 = .ok (.aload_n 0, 1) := by decide +kernel
theorem dX5_init_5 : decode mX5_init.2.1 5 = .ok (.iconst 5, 1) := by decide +kernel
theorem dX5_init_6 : decode mX5_init.2.1 6 = .ok (.anewarray 9, 3) := by decide +kernel
theorem dX5_init_9 : decode mX5_init.2.1 9 = .ok (.putfield 11, 3) := by decide +kernel
theorem dX5_init_12 : decode mX5_init.2.1 12 = .ok (.iconst 0, 1) := by decide +kernel
theorem dX5_init_13 : decode mX5_init.2.1 13 = .ok (.istore_n 1, 1) := by decide +kernel
theorem dX5_init_14 : decode mX5_init.2.1 14 = .ok (.iload_n 1, 1) := by decide +kernel
theorem dX5_init_15 : decode mX5_init.2.1 15 = .ok (.iconst 5, 1) := by decide +kernel
theorem dX5_init_16 : decode mX5_init.2.1 16 = .ok (.if_icmp .ge 22, 3) := by decide +kernel
theorem dX5_init_19 : decode mX5_init.2.1 19 = .ok (.aload_n 0, 1) := by decide +kernel
theorem dX5_init_20 : decode mX5_init.2.1 20 = .ok (.getfield 11, 3) := by decide +kernel
theorem dX5_init_23 : decode mX5_init.2.1 23 = .ok (.iload_n 1, 1) := by decide +kernel
theorem dX5_init_24 : decode mX5_init.2.1 24 = .ok (.new 9, 3) := by decide +kernel
theorem dX5_init_27 : decode mX5_init.2.1 27 = .ok (.dup, 1) := by decide +kernel
theorem dX5_init_28 : decode mX5_init.2.1 28 = .ok (.invokespecial 17, 3) := by decide +kernel
theorem dX5_init_31 : decode mX5_init.2.1 31 = .ok (.aastore, 1) := by decide +kernel
theorem dX5_init_32 : decode mX5_init.2.1 32 = .ok (.iinc 1 1, 3) := by decide +kernel
theorem dX5_init_35 : decode mX5_init.2.1 35 = .ok (.goto (-21), 3) := by decide +kernel
theorem dX5_init_38 : decode mX5_init.2.1 38 = .ok (.return_, 1) := by decide +kernel
theorem dX5_count_0 : decode mX5_count.2.1 0 = .ok (.aload_n 0, 1) := by decide +kernel
theorem dX5_count_1 : decode mX5_count.2.1 1 = .ok (.getfield 18, 3) := by decide +kernel
theorem dX5_count_4 : decode mX5_count.2.1 4 = .ok (.ireturn, 1) := by decide +kernel
theorem dX5_keep_0 : decode mX5_keep.2.1 0 = .ok (.aload_n 0, 1) := by decide +kernel
theorem dX5_keep_1 : decode mX5_keep.2.1 1 = .ok (.getfield 18, 3) := by decide +kernel
theorem dX5_keep_4 : decode mX5_keep.2.1 4 = .ok (.iconst 5, 1) := by decide +kernel
theorem dX5_keep_5 : decode mX5_keep.2.1 5 = .ok (.if_icmp .lt 7, 3) := by decide +kernel
theorem dX5_keep_8 : decode mX5_keep.2.1 8 = .ok (.aload_n 0, 1) := by decide +kernel
theorem dX5_keep_9 : decode mX5_keep.2.1 9 = .ok (.invokevirtual 22, 3) := by decide +kernel
theorem dX5_keep_12 : decode mX5_keep.2.1 12 = .ok (.aload_n 0, 1) := by decide +kernel
theorem dX5_keep_13 : decode mX5_keep.2.1 13 = .ok (.getfield 11, 3) := by decide +kernel
theorem dX5_keep_16 : decode mX5_keep.2.1 16 = .ok (.aload_n 0, 1) := by decide +kernel
theorem dX5_keep_17 : decode mX5_keep.2.1 17 = .ok (.getfield 18, 3) := by decide +kernel
theorem dX5_keep_20 : decode mX5_keep.2.1 20 = .ok (.aaload, 1) := by decide +kernel
theorem dX5_keep_21 : decode mX5_keep.2.1 21 = .ok (.aload_n 1, 1) := by decide +kernel
theorem dX5_keep_22 : decode mX5_keep.2.1 22 = .ok (.invokevirtual 25, 3) := by decide +kernel
theorem dX5_keep_25 : decode mX5_keep.2.1 25 = .ok (.aload_n 0, 1) := by decide +kernel
theorem dX5_keep_26 : decode mX5_keep.2.1 26 = .ok (.dup, 1) := by decide +kernel
theorem dX5_keep_27 : decode mX5_keep.2.1 27 = .ok (.getfield 18, 3) := by decide +kernel
theorem dX5_keep_30 : decode mX5_keep.2.1 30 = .ok (.iconst 1, 1) := by decide +kernel
theorem dX5_keep_31 : decode mX5_keep.2.1 31 = .ok (.iadd, 1) := by decide +kernel
theorem dX5_keep_32 : decode mX5_keep.2.1 32 = .ok (.putfield 18, 3) := by decide +kernel
theorem dX5_keep_35 : decode mX5_keep.2.1 35 = .ok (.return_, 1) := by decide +kernel
theorem dX5_giveBack_0 : decode mX5_giveBack.2.1 0 = .ok (.aload_n 0, 1) := by decide +kernel
theorem dX5_giveBack_1 : decode mX5_giveBack.2.1 1 = .ok (.getfield 18, 3) := by decide +kernel
theorem dX5_giveBack_4 : decode mX5_giveBack.2.1 4 = .ok (.ifCond .le 26, 3) := by decide +kernel
theorem dX5_giveBack_7 : decode mX5_giveBack.2.1 7 = .ok (.aload_n 0, 1) := by decide +kernel
theorem dX5_giveBack_8 : decode mX5_giveBack.2.1 8 = .ok (.dup, 1) := by decide +kernel
theorem dX5_giveBack_9 : decode mX5_giveBack.2.1 9 = .ok (.getfield 18, 3) := by decide +kernel
theorem dX5_giveBack_12 : decode mX5_giveBack.2.1 12 = .ok (.iconst 1, 1) := by decide +kernel
theorem dX5_giveBack_13 : decode mX5_giveBack.2.1 13 = .ok (.isub, 1) := by decide +kernel
theorem dX5_giveBack_14 : decode mX5_giveBack.2.1 14 = .ok (.putfield 18, 3) := by decide +kernel
theorem dX5_giveBack_17 : decode mX5_giveBack.2.1 17 = .ok (.aload_n 1, 1) := by decide +kernel
theorem dX5_giveBack_18 : decode mX5_giveBack.2.1 18 = .ok (.aload_n 0, 1) := by decide +kernel
theorem dX5_giveBack_19 : decode mX5_giveBack.2.1 19 = .ok (.getfield 11, 3) := by decide +kernel
theorem dX5_giveBack_22 : decode mX5_giveBack.2.1 22 = .ok (.aload_n 0, 1) := by decide +kernel
theorem dX5_giveBack_23 : decode mX5_giveBack.2.1 23 = .ok (.getfield 18, 3) := by decide +kernel
theorem dX5_giveBack_26 : decode mX5_giveBack.2.1 26 = .ok (.aaload, 1) := by decide +kernel
theorem dX5_giveBack_27 : decode mX5_giveBack.2.1 27 = .ok (.invokevirtual 25, 3) := by decide +kernel
theorem dX5_giveBack_30 : decode mX5_giveBack.2.1 30 = .ok (.return_, 1) := by decide +kernel
theorem dX5_loseOldest_0 : decode mX5_loseOldest.2.1 0 = .ok (.aload_n 0, 1) := by decide +kernel
theorem dX5_loseOldest_1 : decode mX5_loseOldest.2.1 1 = .ok (.getfield 11, 3) := by decide +kernel
theorem dX5_loseOldest_4 : decode mX5_loseOldest.2.1 4 = .ok (.iconst 0, 1) := by decide +kernel
theorem dX5_loseOldest_5 : decode mX5_loseOldest.2.1 5 = .ok (.aaload, 1) := by decide +kernel
theorem dX5_loseOldest_6 : decode mX5_loseOldest.2.1 6 = .ok (.astore_n 1, 1) := by decide +kernel
theorem dX5_loseOldest_7 : decode mX5_loseOldest.2.1 7 = .ok (.iconst 1, 1) := by decide +kernel
theorem dX5_loseOldest_8 : decode mX5_loseOldest.2.1 8 = .ok (.istore_n 2, 1) := by decide +kernel
theorem dX5_loseOldest_9 : decode mX5_loseOldest.2.1 9 = .ok (.iload_n 2, 1) := by decide +kernel
theorem dX5_loseOldest_10 : decode mX5_loseOldest.2.1 10 = .ok (.iconst 5, 1) := by decide +kernel
theorem dX5_loseOldest_11 : decode mX5_loseOldest.2.1 11 = .ok (.if_icmp .ge 23, 3) := by decide +kernel
theorem dX5_loseOldest_14 : decode mX5_loseOldest.2.1 14 = .ok (.aload_n 0, 1) := by decide +kernel
theorem dX5_loseOldest_15 : decode mX5_loseOldest.2.1 15 = .ok (.getfield 11, 3) := by decide +kernel
theorem dX5_loseOldest_18 : decode mX5_loseOldest.2.1 18 = .ok (.iload_n 2, 1) := by decide +kernel
theorem dX5_loseOldest_19 : decode mX5_loseOldest.2.1 19 = .ok (.iconst 1, 1) := by decide +kernel
theorem dX5_loseOldest_20 : decode mX5_loseOldest.2.1 20 = .ok (.isub, 1) := by decide +kernel
theorem dX5_loseOldest_21 : decode mX5_loseOldest.2.1 21 = .ok (.aload_n 0, 1) := by decide +kernel
theorem dX5_loseOldest_22 : decode mX5_loseOldest.2.1 22 = .ok (.getfield 11, 3) := by decide +kernel
theorem dX5_loseOldest_25 : decode mX5_loseOldest.2.1 25 = .ok (.iload_n 2, 1) := by decide +kernel
theorem dX5_loseOldest_26 : decode mX5_loseOldest.2.1 26 = .ok (.aaload, 1) := by decide +kernel
theorem dX5_loseOldest_27 : decode mX5_loseOldest.2.1 27 = .ok (.aastore, 1) := by decide +kernel
theorem dX5_loseOldest_28 : decode mX5_loseOldest.2.1 28 = .ok (.iinc 2 1, 3) := by decide +kernel
theorem dX5_loseOldest_31 : decode mX5_loseOldest.2.1 31 = .ok (.goto (-22), 3) := by decide +kernel
theorem dX5_loseOldest_34 : decode mX5_loseOldest.2.1 34 = .ok (.aload_n 0, 1) := by decide +kernel
theorem dX5_loseOldest_35 : decode mX5_loseOldest.2.1 35 = .ok (.getfield 11, 3) := by decide +kernel
theorem dX5_loseOldest_38 : decode mX5_loseOldest.2.1 38 = .ok (.iconst 4, 1) := by decide +kernel
theorem dX5_loseOldest_39 : decode mX5_loseOldest.2.1 39 = .ok (.aload_n 1, 1) := by decide +kernel
theorem dX5_loseOldest_40 : decode mX5_loseOldest.2.1 40 = .ok (.aastore, 1) := by decide +kernel
theorem dX5_loseOldest_41 : decode mX5_loseOldest.2.1 41 = .ok (.aload_n 0, 1) := by decide +kernel
theorem dX5_loseOldest_42 : decode mX5_loseOldest.2.1 42 = .ok (.iconst 4, 1) := by decide +kernel
theorem dX5_loseOldest_43 : decode mX5_loseOldest.2.1 43 = .ok (.putfield 18, 3) := by decide +kernel
theorem dX5_loseOldest_46 : decode mX5_loseOldest.2.1 46 = .ok (.return_, 1) := by decide +kernel
theorem dX6_init_0 : decode mX6_init.2.1 0 = .ok (.aload_n 0, 1) := by decide +kernel
theorem dX6_init_1 : decode mX6_init.2.1 1 = .ok (.invokespecial 3, 3) := by decide +kernel
theorem dX6_init_4 : decode mX6_init.2.1 4 = .ok (.aload_n 0, 1) := by decide +kernel
theorem dX6_init_5 : decode mX6_init.2.1 5 = .ok (.sipush 200, 3) := by decide +kernel
theorem dX6_init_8 : decode mX6_init.2.1 8 = .ok (.newarray .byte, 2) := by decide +kernel
theorem dX6_init_10 : decode mX6_init.2.1 10 = .ok (.putfield 9, 3) := by decide +kernel
theorem dX6_init_13 : decode mX6_init.2.1 13 = .ok (.return_, 1) := by decide +kernel
theorem dX6_length_0 : decode mX6_length.2.1 0 = .ok (.aload_n 0, 1) := by decide +kernel
theorem dX6_length_1 : decode mX6_length.2.1 1 = .ok (.getfield 15, 3) := by decide +kernel
theorem dX6_length_4 : decode mX6_length.2.1 4 = .ok (.ireturn, 1) := by decide +kernel
theorem dX6_isFull_0 : decode mX6_isFull.2.1 0 = .ok (.aload_n 0, 1) := by decide +kernel
theorem dX6_isFull_1 : decode mX6_isFull.2.1 1 = .ok (.getfield 15, 3) := by decide +kernel
theorem dX6_isFull_4 : decode mX6_isFull.2.1 4 = .ok (.sipush 200, 3) := by decide +kernel
theorem dX6_isFull_7 : decode mX6_isFull.2.1 7 = .ok (.if_icmp .lt 7, 3) := by decide +kernel
theorem dX6_isFull_10 : decode mX6_isFull.2.1 10 = .ok (.iconst 1, 1) := by decide +kernel
theorem dX6_isFull_11 : decode mX6_isFull.2.1 11 = .ok (.goto 4, 3) := by decide +kernel
theorem dX6_isFull_14 : decode mX6_isFull.2.1 14 = .ok (.iconst 0, 1) := by decide +kernel
theorem dX6_isFull_15 : decode mX6_isFull.2.1 15 = .ok (.ireturn, 1) := by decide +kernel
theorem dX6_append_0 : decode mX6_append.2.1 0 = .ok (.aload_n 0, 1) := by decide +kernel
theorem dX6_append_1 : decode mX6_append.2.1 1 = .ok (.getfield 15, 3) := by decide +kernel
theorem dX6_append_4 : decode mX6_append.2.1 4 = .ok (.sipush 200, 3) := by decide +kernel
theorem dX6_append_7 : decode mX6_append.2.1 7 = .ok (.if_icmp .ge 24, 3) := by decide +kernel
theorem dX6_append_10 : decode mX6_append.2.1 10 = .ok (.aload_n 0, 1) := by decide +kernel
theorem dX6_append_11 : decode mX6_append.2.1 11 = .ok (.getfield 9, 3) := by decide +kernel
theorem dX6_append_14 : decode mX6_append.2.1 14 = .ok (.aload_n 0, 1) := by decide +kernel
theorem dX6_append_15 : decode mX6_append.2.1 15 = .ok (.getfield 15, 3) := by decide +kernel
theorem dX6_append_18 : decode mX6_append.2.1 18 = .ok (.iload_n 1, 1) := by decide +kernel
theorem dX6_append_19 : decode mX6_append.2.1 19 = .ok (.i2b, 1) := by decide +kernel
theorem dX6_append_20 : decode mX6_append.2.1 20 = .ok (.bastore, 1) := by decide +kernel
theorem dX6_append_21 : decode mX6_append.2.1 21 = .ok (.aload_n 0, 1) := by decide +kernel
theorem dX6_append_22 : decode mX6_append.2.1 22 = .ok (.dup, 1) := by decide +kernel
theorem dX6_append_23 : decode mX6_append.2.1 23 = .ok (.getfield 15, 3) := by decide +kernel
theorem dX6_append_26 : decode mX6_append.2.1 26 = .ok (.iconst 1, 1) := by decide +kernel
theorem dX6_append_27 : decode mX6_append.2.1 27 = .ok (.iadd, 1) := by decide +kernel
theorem dX6_append_28 : decode mX6_append.2.1 28 = .ok (.putfield 15, 3) := by decide +kernel
theorem dX6_append_31 : decode mX6_append.2.1 31 = .ok (.return_, 1) := by decide +kernel
theorem dX6_empty_0 : decode mX6_empty.2.1 0 = .ok (.aload_n 0, 1) := by decide +kernel
theorem dX6_empty_1 : decode mX6_empty.2.1 1 = .ok (.iconst 0, 1) := by decide +kernel
theorem dX6_empty_2 : decode mX6_empty.2.1 2 = .ok (.putfield 15, 3) := by decide +kernel
theorem dX6_empty_5 : decode mX6_empty.2.1 5 = .ok (.return_, 1) := by decide +kernel
theorem dX6_at_0 : decode mX6_at.2.1 0 = .ok (.iload_n 1, 1) := by decide +kernel
theorem dX6_at_1 : decode mX6_at.2.1 1 = .ok (.aload_n 0, 1) := by decide +kernel
theorem dX6_at_2 : decode mX6_at.2.1 2 = .ok (.getfield 15, 3) := by decide +kernel
theorem dX6_at_5 : decode mX6_at.2.1 5 = .ok (.invokestatic 19, 3) := by decide +kernel
theorem dX6_at_8 : decode mX6_at.2.1 8 = .ok (.ifCond .eq 7, 3) := by decide +kernel
theorem dX6_at_11 : decode mX6_at.2.1 11 = .ok (.iconst (-1), 1) := by decide +kernel
theorem dX6_at_12 : decode mX6_at.2.1 12 = .ok (.goto 9, 3) := by decide +kernel
theorem dX6_at_15 : decode mX6_at.2.1 15 = .ok (.aload_n 0, 1) := by decide +kernel
theorem dX6_at_16 : decode mX6_at.2.1 16 = .ok (.getfield 9, 3) := by decide +kernel
theorem dX6_at_19 : decode mX6_at.2.1 19 = .ok (.iload_n 1, 1) := by decide +kernel
theorem dX6_at_20 : decode mX6_at.2.1 20 = .ok (.baload, 1) := by decide +kernel
theorem dX6_at_21 : decode mX6_at.2.1 21 = .ok (.ireturn, 1) := by decide +kernel
theorem dX7_init_0 : decode mX7_init.2.1 0 = .ok (.aload_n 0, 1) := by decide +kernel
theorem dX7_init_1 : decode mX7_init.2.1 1 = .ok (.invokespecial 3, 3) := by decide +kernel
theorem dX7_init_4 : decode mX7_init.2.1 4 = .ok (.aload_n 0, 1) := by decide +kernel
theorem dX7_init_5 : decode mX7_init.2.1 5 = .ok (.sipush 200, 3) := by decide +kernel
theorem dX7_init_8 : decode mX7_init.2.1 8 = .ok (.newarray .int, 2) := by decide +kernel
theorem dX7_init_10 : decode mX7_init.2.1 10 = .ok (.putfield 9, 3) := by decide +kernel
theorem dX7_init_13 : decode mX7_init.2.1 13 = .ok (.aload_n 0, 1) := by decide +kernel
theorem dX7_init_14 : decode mX7_init.2.1 14 = .ok (.sipush 200, 3) := by decide +kernel
theorem dX7_init_17 : decode mX7_init.2.1 17 = .ok (.newarray .int, 2) := by decide +kernel
theorem dX7_init_19 : decode mX7_init.2.1 19 = .ok (.putfield 15, 3) := by decide +kernel
theorem dX7_init_22 : decode mX7_init.2.1 22 = .ok (.return_, 1) := by decide +kernel
theorem dX7_ahead_0 : decode mX7_ahead.2.1 0 = .ok (.aload_n 0, 1) := by decide +kernel
theorem dX7_ahead_1 : decode mX7_ahead.2.1 1 = .ok (.getfield 18, 3) := by decide +kernel
theorem dX7_ahead_4 : decode mX7_ahead.2.1 4 = .ok (.aload_n 0, 1) := by decide +kernel
theorem dX7_ahead_5 : decode mX7_ahead.2.1 5 = .ok (.getfield 22, 3) := by decide +kernel
theorem dX7_ahead_8 : decode mX7_ahead.2.1 8 = .ok (.if_icmp .ge 15, 3) := by decide +kernel
theorem dX7_ahead_11 : decode mX7_ahead.2.1 11 = .ok (.aload_n 0, 1) := by decide +kernel
theorem dX7_ahead_12 : decode mX7_ahead.2.1 12 = .ok (.getfield 9, 3) := by decide +kernel
theorem dX7_ahead_15 : decode mX7_ahead.2.1 15 = .ok (.aload_n 0, 1) := by decide +kernel
theorem dX7_ahead_16 : decode mX7_ahead.2.1 16 = .ok (.getfield 18, 3) := by decide +kernel
theorem dX7_ahead_19 : decode mX7_ahead.2.1 19 = .ok (.iaload, 1) := by decide +kernel
theorem dX7_ahead_20 : decode mX7_ahead.2.1 20 = .ok (.goto 4, 3) := by decide +kernel
theorem dX7_ahead_23 : decode mX7_ahead.2.1 23 = .ok (.iconst (-1), 1) := by decide +kernel
theorem dX7_ahead_24 : decode mX7_ahead.2.1 24 = .ok (.ireturn, 1) := by decide +kernel
theorem dX7_place_0 : decode mX7_place.2.1 0 = .ok (.aload_n 0, 1) := by decide +kernel
theorem dX7_place_1 : decode mX7_place.2.1 1 = .ok (.getfield 18, 3) := by decide +kernel
theorem dX7_place_4 : decode mX7_place.2.1 4 = .ok (.aload_n 0, 1) := by decide +kernel
theorem dX7_place_5 : decode mX7_place.2.1 5 = .ok (.getfield 22, 3) := by decide +kernel
theorem dX7_place_8 : decode mX7_place.2.1 8 = .ok (.if_icmp .ge 15, 3) := by decide +kernel
theorem dX7_place_11 : decode mX7_place.2.1 11 = .ok (.aload_n 0, 1) := by decide +kernel
theorem dX7_place_12 : decode mX7_place.2.1 12 = .ok (.getfield 15, 3) := by decide +kernel
theorem dX7_place_15 : decode mX7_place.2.1 15 = .ok (.aload_n 0, 1) := by decide +kernel
theorem dX7_place_16 : decode mX7_place.2.1 16 = .ok (.getfield 18, 3) := by decide +kernel
theorem dX7_place_19 : decode mX7_place.2.1 19 = .ok (.iaload, 1) := by decide +kernel
theorem dX7_place_20 : decode mX7_place.2.1 20 = .ok (.goto 7, 3) := by decide +kernel
theorem dX7_place_23 : decode mX7_place.2.1 23 = .ok (.aload_n 0, 1) := by decide +kernel
theorem dX7_place_24 : decode mX7_place.2.1 24 = .ok (.getfield 25, 3) := by decide +kernel
theorem dX7_place_27 : decode mX7_place.2.1 27 = .ok (.ireturn, 1) := by decide +kernel
theorem dX7_step_0 : decode mX7_step.2.1 0 = .ok (.aload_n 0, 1) := by decide +kernel
theorem dX7_step_1 : decode mX7_step.2.1 1 = .ok (.getfield 18, 3) := by decide +kernel
theorem dX7_step_4 : decode mX7_step.2.1 4 = .ok (.aload_n 0, 1) := by decide +kernel
theorem dX7_step_5 : decode mX7_step.2.1 5 = .ok (.getfield 22, 3) := by decide +kernel
theorem dX7_step_8 : decode mX7_step.2.1 8 = .ok (.if_icmp .ge 13, 3) := by decide +kernel
theorem dX7_step_11 : decode mX7_step.2.1 11 = .ok (.aload_n 0, 1) := by decide +kernel
theorem dX7_step_12 : decode mX7_step.2.1 12 = .ok (.dup, 1) := by decide +kernel
theorem dX7_step_13 : decode mX7_step.2.1 13 = .ok (.getfield 18, 3) := by decide +kernel
theorem dX7_step_16 : decode mX7_step.2.1 16 = .ok (.iconst 1, 1) := by decide +kernel
theorem dX7_step_17 : decode mX7_step.2.1 17 = .ok (.iadd, 1) := by decide +kernel
theorem dX7_step_18 : decode mX7_step.2.1 18 = .ok (.putfield 18, 3) := by decide +kernel
theorem dX7_step_21 : decode mX7_step.2.1 21 = .ok (.return_, 1) := by decide +kernel
theorem dX7_cut_0 : decode mX7_cut.2.1 0 = .ok (.aload_n 0, 1) := by decide +kernel
theorem dX7_cut_1 : decode mX7_cut.2.1 1 = .ok (.iconst 0, 1) := by decide +kernel
theorem dX7_cut_2 : decode mX7_cut.2.1 2 = .ok (.putfield 22, 3) := by decide +kernel
theorem dX7_cut_5 : decode mX7_cut.2.1 5 = .ok (.aload_n 0, 1) := by decide +kernel
theorem dX7_cut_6 : decode mX7_cut.2.1 6 = .ok (.iconst 0, 1) := by decide +kernel
theorem dX7_cut_7 : decode mX7_cut.2.1 7 = .ok (.putfield 18, 3) := by decide +kernel
theorem dX7_cut_10 : decode mX7_cut.2.1 10 = .ok (.aload_n 0, 1) := by decide +kernel
theorem dX7_cut_11 : decode mX7_cut.2.1 11 = .ok (.aload_n 1, 1) := by decide +kernel
theorem dX7_cut_12 : decode mX7_cut.2.1 12 = .ok (.invokevirtual 28, 3) := by decide +kernel
theorem dX7_cut_15 : decode mX7_cut.2.1 15 = .ok (.putfield 25, 3) := by decide +kernel
theorem dX7_cut_18 : decode mX7_cut.2.1 18 = .ok (.iconst 0, 1) := by decide +kernel
theorem dX7_cut_19 : decode mX7_cut.2.1 19 = .ok (.istore_n 2, 1) := by decide +kernel
theorem dX7_cut_20 : decode mX7_cut.2.1 20 = .ok (.iload_n 2, 1) := by decide +kernel
theorem dX7_cut_21 : decode mX7_cut.2.1 21 = .ok (.aload_n 0, 1) := by decide +kernel
theorem dX7_cut_22 : decode mX7_cut.2.1 22 = .ok (.getfield 25, 3) := by decide +kernel
theorem dX7_cut_25 : decode mX7_cut.2.1 25 = .ok (.if_icmp .ge 54, 3) := by decide +kernel
theorem dX7_cut_28 : decode mX7_cut.2.1 28 = .ok (.iconst 1, 1) := by decide +kernel
theorem dX7_cut_29 : decode mX7_cut.2.1 29 = .ok (.aload_n 1, 1) := by decide +kernel
theorem dX7_cut_30 : decode mX7_cut.2.1 30 = .ok (.iload_n 2, 1) := by decide +kernel
theorem dX7_cut_31 : decode mX7_cut.2.1 31 = .ok (.invokestatic 34, 3) := by decide +kernel
theorem dX7_cut_34 : decode mX7_cut.2.1 34 = .ok (.invokestatic 38, 3) := by decide +kernel
theorem dX7_cut_37 : decode mX7_cut.2.1 37 = .ok (.istore_n 3, 1) := by decide +kernel
theorem dX7_cut_38 : decode mX7_cut.2.1 38 = .ok (.aload_n 1, 1) := by decide +kernel
theorem dX7_cut_39 : decode mX7_cut.2.1 39 = .ok (.iload_n 2, 1) := by decide +kernel
theorem dX7_cut_40 : decode mX7_cut.2.1 40 = .ok (.invokevirtual 44, 3) := by decide +kernel
theorem dX7_cut_43 : decode mX7_cut.2.1 43 = .ok (.bipush 32, 2) := by decide +kernel
theorem dX7_cut_45 : decode mX7_cut.2.1 45 = .ok (.if_icmp .eq 27, 3) := by decide +kernel
theorem dX7_cut_48 : decode mX7_cut.2.1 48 = .ok (.aload_n 0, 1) := by decide +kernel
theorem dX7_cut_49 : decode mX7_cut.2.1 49 = .ok (.iload_n 3, 1) := by decide +kernel
theorem dX7_cut_50 : decode mX7_cut.2.1 50 = .ok (.iconst 1, 1) := by decide +kernel
theorem dX7_cut_51 : decode mX7_cut.2.1 51 = .ok (.if_icmp .ne 11, 3) := by decide +kernel
theorem dX7_cut_54 : decode mX7_cut.2.1 54 = .ok (.aload_n 1, 1) := by decide +kernel
theorem dX7_cut_55 : decode mX7_cut.2.1 55 = .ok (.iload_n 2, 1) := by decide +kernel
theorem dX7_cut_56 : decode mX7_cut.2.1 56 = .ok (.invokevirtual 44, 3) := by decide +kernel
theorem dX7_cut_59 : decode mX7_cut.2.1 59 = .ok (.goto 9, 3) := by decide +kernel
theorem dX7_cut_62 : decode mX7_cut.2.1 62 = .ok (.aload_n 1, 1) := by decide +kernel
theorem dX7_cut_63 : decode mX7_cut.2.1 63 = .ok (.iload_n 2, 1) := by decide +kernel
theorem dX7_cut_64 : decode mX7_cut.2.1 64 = .ok (.iload_n 3, 1) := by decide +kernel
theorem dX7_cut_65 : decode mX7_cut.2.1 65 = .ok (.invokestatic 48, 3) := by decide +kernel
theorem dX7_cut_68 : decode mX7_cut.2.1 68 = .ok (.iload_n 2, 1) := by decide +kernel
theorem dX7_cut_69 : decode mX7_cut.2.1 69 = .ok (.invokevirtual 52, 3) := by decide +kernel
theorem dX7_cut_72 : decode mX7_cut.2.1 72 = .ok (.iload_n 2, 1) := by decide +kernel
theorem dX7_cut_73 : decode mX7_cut.2.1 73 = .ok (.iload_n 3, 1) := by decide +kernel
theorem dX7_cut_74 : decode mX7_cut.2.1 74 = .ok (.iadd, 1) := by decide +kernel
theorem dX7_cut_75 : decode mX7_cut.2.1 75 = .ok (.istore_n 2, 1) := by decide +kernel
theorem dX7_cut_76 : decode mX7_cut.2.1 76 = .ok (.goto (-56), 3) := by decide +kernel
theorem dX7_cut_79 : decode mX7_cut.2.1 79 = .ok (.return_, 1) := by decide +kernel
theorem dX7_add_0 : decode mX7_add.2.1 0 = .ok (.aload_n 0, 1) := by decide +kernel
theorem dX7_add_1 : decode mX7_add.2.1 1 = .ok (.getfield 22, 3) := by decide +kernel
theorem dX7_add_4 : decode mX7_add.2.1 4 = .ok (.sipush 200, 3) := by decide +kernel
theorem dX7_add_7 : decode mX7_add.2.1 7 = .ok (.if_icmp .ge 33, 3) := by decide +kernel
theorem dX7_add_10 : decode mX7_add.2.1 10 = .ok (.aload_n 0, 1) := by decide +kernel
theorem dX7_add_11 : decode mX7_add.2.1 11 = .ok (.getfield 9, 3) := by decide +kernel
theorem dX7_add_14 : decode mX7_add.2.1 14 = .ok (.aload_n 0, 1) := by decide +kernel
theorem dX7_add_15 : decode mX7_add.2.1 15 = .ok (.getfield 22, 3) := by decide +kernel
theorem dX7_add_18 : decode mX7_add.2.1 18 = .ok (.iload_n 1, 1) := by decide +kernel
theorem dX7_add_19 : decode mX7_add.2.1 19 = .ok (.iastore, 1) := by decide +kernel
theorem dX7_add_20 : decode mX7_add.2.1 20 = .ok (.aload_n 0, 1) := by decide +kernel
theorem dX7_add_21 : decode mX7_add.2.1 21 = .ok (.getfield 15, 3) := by decide +kernel
theorem dX7_add_24 : decode mX7_add.2.1 24 = .ok (.aload_n 0, 1) := by decide +kernel
theorem dX7_add_25 : decode mX7_add.2.1 25 = .ok (.getfield 22, 3) := by decide +kernel
theorem dX7_add_28 : decode mX7_add.2.1 28 = .ok (.iload_n 2, 1) := by decide +kernel
theorem dX7_add_29 : decode mX7_add.2.1 29 = .ok (.iastore, 1) := by decide +kernel
theorem dX7_add_30 : decode mX7_add.2.1 30 = .ok (.aload_n 0, 1) := by decide +kernel
theorem dX7_add_31 : decode mX7_add.2.1 31 = .ok (.dup, 1) := by decide +kernel
theorem dX7_add_32 : decode mX7_add.2.1 32 = .ok (.getfield 22, 3) := by decide +kernel
theorem dX7_add_35 : decode mX7_add.2.1 35 = .ok (.iconst 1, 1) := by decide +kernel
theorem dX7_add_36 : decode mX7_add.2.1 36 = .ok (.iadd, 1) := by decide +kernel
theorem dX7_add_37 : decode mX7_add.2.1 37 = .ok (.putfield 22, 3) := by decide +kernel
theorem dX7_add_40 : decode mX7_add.2.1 40 = .ok (.return_, 1) := by decide +kernel
theorem dX7_lettersFrom_0 : decode mX7_lettersFrom.2.1 0 = .ok (.iload_n 1, 1) := by decide +kernel
theorem dX7_lettersFrom_1 : decode mX7_lettersFrom.2.1 1 = .ok (.istore_n 2, 1) := by decide +kernel
theorem dX7_lettersFrom_2 : decode mX7_lettersFrom.2.1 2 = .ok (.iload_n 2, 1) := by decide +kernel
theorem dX7_lettersFrom_3 : decode mX7_lettersFrom.2.1 3 = .ok (.aload_n 0, 1) := by decide +kernel
theorem dX7_lettersFrom_4 : decode mX7_lettersFrom.2.1 4 = .ok (.invokevirtual 28, 3) := by decide +kernel
theorem dX7_lettersFrom_7 : decode mX7_lettersFrom.2.1 7 = .ok (.if_icmp .ge 29, 3) := by decide +kernel
theorem dX7_lettersFrom_10 : decode mX7_lettersFrom.2.1 10 = .ok (.aload_n 0, 1) := by decide +kernel
theorem dX7_lettersFrom_11 : decode mX7_lettersFrom.2.1 11 = .ok (.iload_n 2, 1) := by decide +kernel
theorem dX7_lettersFrom_12 : decode mX7_lettersFrom.2.1 12 = .ok (.invokevirtual 44, 3) := by decide +kernel
theorem dX7_lettersFrom_15 : decode mX7_lettersFrom.2.1 15 = .ok (.bipush 97, 2) := by decide +kernel
theorem dX7_lettersFrom_17 : decode mX7_lettersFrom.2.1 17 = .ok (.if_icmp .lt 19, 3) := by decide +kernel
theorem dX7_lettersFrom_20 : decode mX7_lettersFrom.2.1 20 = .ok (.aload_n 0, 1) := by decide +kernel
theorem dX7_lettersFrom_21 : decode mX7_lettersFrom.2.1 21 = .ok (.iload_n 2, 1) := by decide +kernel
theorem dX7_lettersFrom_22 : decode mX7_lettersFrom.2.1 22 = .ok (.invokevirtual 44, 3) := by decide +kernel
theorem dX7_lettersFrom_25 : decode mX7_lettersFrom.2.1 25 = .ok (.bipush 122, 2) := by decide +kernel
theorem dX7_lettersFrom_27 : decode mX7_lettersFrom.2.1 27 = .ok (.if_icmp .gt 9, 3) := by decide +kernel
theorem dX7_lettersFrom_30 : decode mX7_lettersFrom.2.1 30 = .ok (.iinc 2 1, 3) := by decide +kernel
theorem dX7_lettersFrom_33 : decode mX7_lettersFrom.2.1 33 = .ok (.goto (-31), 3) := by decide +kernel
theorem dX7_lettersFrom_36 : decode mX7_lettersFrom.2.1 36 = .ok (.iload_n 2, 1) := by decide +kernel
theorem dX7_lettersFrom_37 : decode mX7_lettersFrom.2.1 37 = .ok (.iload_n 1, 1) := by decide +kernel
theorem dX7_lettersFrom_38 : decode mX7_lettersFrom.2.1 38 = .ok (.isub, 1) := by decide +kernel
theorem dX7_lettersFrom_39 : decode mX7_lettersFrom.2.1 39 = .ok (.ireturn, 1) := by decide +kernel
theorem dX7_wordKind_0 : decode mX7_wordKind.2.1 0 = .ok (.aload_n 0, 1) := by decide +kernel
theorem dX7_wordKind_1 : decode mX7_wordKind.2.1 1 = .ok (.iload_n 1, 1) := by decide +kernel
theorem dX7_wordKind_2 : decode mX7_wordKind.2.1 2 = .ok (.iload_n 2, 1) := by decide +kernel
theorem dX7_wordKind_3 : decode mX7_wordKind.2.1 3 = .ok (.ldc 56, 2) := by decide +kernel
theorem dX7_wordKind_5 : decode mX7_wordKind.2.1 5 = .ok (.invokestatic 58, 3) := by decide +kernel
theorem dX7_wordKind_8 : decode mX7_wordKind.2.1 8 = .ok (.ifCond .eq 7, 3) := by decide +kernel
theorem dX7_wordKind_11 : decode mX7_wordKind.2.1 11 = .ok (.sipush 128, 3) := by decide +kernel
theorem dX7_wordKind_14 : decode mX7_wordKind.2.1 14 = .ok (.ireturn, 1) := by decide +kernel
theorem dX7_wordKind_15 : decode mX7_wordKind.2.1 15 = .ok (.aload_n 0, 1) := by decide +kernel
theorem dX7_wordKind_16 : decode mX7_wordKind.2.1 16 = .ok (.iload_n 1, 1) := by decide +kernel
theorem dX7_wordKind_17 : decode mX7_wordKind.2.1 17 = .ok (.iload_n 2, 1) := by decide +kernel
theorem dX7_wordKind_18 : decode mX7_wordKind.2.1 18 = .ok (.ldc 62, 2) := by decide +kernel
theorem dX7_wordKind_20 : decode mX7_wordKind.2.1 20 = .ok (.invokestatic 58, 3) := by decide +kernel
theorem dX7_wordKind_23 : decode mX7_wordKind.2.1 23 = .ok (.ifCond .eq 9, 3) := by decide +kernel
theorem dX7_wordKind_26 : decode mX7_wordKind.2.1 26 = .ok (.sipush 129, 3) := by decide +kernel
theorem dX7_wordKind_29 : decode mX7_wordKind.2.1 29 = .ok (.goto 6, 3) := by decide +kernel
theorem dX7_wordKind_32 : decode mX7_wordKind.2.1 32 = .ok (.sipush 130, 3) := by decide +kernel
theorem dX7_wordKind_35 : decode mX7_wordKind.2.1 35 = .ok (.ireturn, 1) := by decide +kernel
theorem dX7_spells_0 : decode mX7_spells.2.1 0 = .ok (.aload_n 3, 1) := by decide +kernel
theorem dX7_spells_1 : decode mX7_spells.2.1 1 = .ok (.invokevirtual 64, 3) := by decide +kernel
theorem dX7_spells_4 : decode mX7_spells.2.1 4 = .ok (.iload_n 2, 1) := by decide +kernel
theorem dX7_spells_5 : decode mX7_spells.2.1 5 = .ok (.if_icmp .ne 7, 3) := by decide +kernel
theorem dX7_spells_8 : decode mX7_spells.2.1 8 = .ok (.iconst 1, 1) := by decide +kernel
theorem dX7_spells_9 : decode mX7_spells.2.1 9 = .ok (.goto 4, 3) := by decide +kernel
theorem dX7_spells_12 : decode mX7_spells.2.1 12 = .ok (.iconst 0, 1) := by decide +kernel
theorem dX7_spells_13 : decode mX7_spells.2.1 13 = .ok (.istore 4, 2) := by decide +kernel
theorem dX7_spells_15 : decode mX7_spells.2.1 15 = .ok (.iconst 0, 1) := by decide +kernel
theorem dX7_spells_16 : decode mX7_spells.2.1 16 = .ok (.istore 5, 2) := by decide +kernel
theorem dX7_spells_18 : decode mX7_spells.2.1 18 = .ok (.iload 5, 2) := by decide +kernel
theorem dX7_spells_20 : decode mX7_spells.2.1 20 = .ok (.iload_n 2, 1) := by decide +kernel
theorem dX7_spells_21 : decode mX7_spells.2.1 21 = .ok (.if_icmp .ge 38, 3) := by decide +kernel
theorem dX7_spells_24 : decode mX7_spells.2.1 24 = .ok (.iload 4, 2) := by decide +kernel
theorem dX7_spells_26 : decode mX7_spells.2.1 26 = .ok (.ifCond .eq 33, 3) := by decide +kernel
theorem dX7_spells_29 : decode mX7_spells.2.1 29 = .ok (.aload_n 0, 1) := by decide +kernel
theorem dX7_spells_30 : decode mX7_spells.2.1 30 = .ok (.iload_n 1, 1) := by decide +kernel
theorem dX7_spells_31 : decode mX7_spells.2.1 31 = .ok (.iload 5, 2) := by decide +kernel
theorem dX7_spells_33 : decode mX7_spells.2.1 33 = .ok (.iadd, 1) := by decide +kernel
theorem dX7_spells_34 : decode mX7_spells.2.1 34 = .ok (.invokevirtual 44, 3) := by decide +kernel
theorem dX7_spells_37 : decode mX7_spells.2.1 37 = .ok (.aload_n 3, 1) := by decide +kernel
theorem dX7_spells_38 : decode mX7_spells.2.1 38 = .ok (.iload 5, 2) := by decide +kernel
theorem dX7_spells_40 : decode mX7_spells.2.1 40 = .ok (.invokevirtual 67, 3) := by decide +kernel
theorem dX7_spells_43 : decode mX7_spells.2.1 43 = .ok (.if_icmp .ne 7, 3) := by decide +kernel
theorem dX7_spells_46 : decode mX7_spells.2.1 46 = .ok (.iconst 1, 1) := by decide +kernel
theorem dX7_spells_47 : decode mX7_spells.2.1 47 = .ok (.goto 4, 3) := by decide +kernel
theorem dX7_spells_50 : decode mX7_spells.2.1 50 = .ok (.iconst 0, 1) := by decide +kernel
theorem dX7_spells_51 : decode mX7_spells.2.1 51 = .ok (.istore 4, 2) := by decide +kernel
theorem dX7_spells_53 : decode mX7_spells.2.1 53 = .ok (.iinc 5 1, 3) := by decide +kernel
theorem dX7_spells_56 : decode mX7_spells.2.1 56 = .ok (.goto (-38), 3) := by decide +kernel
theorem dX7_spells_59 : decode mX7_spells.2.1 59 = .ok (.iload 4, 2) := by decide +kernel
theorem dX7_spells_61 : decode mX7_spells.2.1 61 = .ok (.ireturn, 1) := by decide +kernel
theorem dX8_init_0 : decode mX8_init.2.1 0 = .ok (.aload_n 0, 1) := by decide +kernel
theorem dX8_init_1 : decode mX8_init.2.1 1 = .ok (.invokespecial 3, 3) := by decide +kernel
theorem dX8_init_4 : decode mX8_init.2.1 4 = .ok (.aload_n 0, 1) := by decide +kernel
theorem dX8_init_5 : decode mX8_init.2.1 5 = .ok (.bipush 16, 2) := by decide +kernel
theorem dX8_init_7 : decode mX8_init.2.1 7 = .ok (.newarray .int, 2) := by decide +kernel
theorem dX8_init_9 : decode mX8_init.2.1 9 = .ok (.putfield 9, 3) := by decide +kernel
theorem dX8_init_12 : decode mX8_init.2.1 12 = .ok (.aload_n 0, 1) := by decide +kernel
theorem dX8_init_13 : decode mX8_init.2.1 13 = .ok (.iconst (-1), 1) := by decide +kernel
theorem dX8_init_14 : decode mX8_init.2.1 14 = .ok (.putfield 15, 3) := by decide +kernel
theorem dX8_init_17 : decode mX8_init.2.1 17 = .ok (.aload_n 0, 1) := by decide +kernel
theorem dX8_init_18 : decode mX8_init.2.1 18 = .ok (.bipush 32, 2) := by decide +kernel
theorem dX8_init_20 : decode mX8_init.2.1 20 = .ok (.newarray .int, 2) := by decide +kernel
theorem dX8_init_22 : decode mX8_init.2.1 22 = .ok (.putfield 19, 3) := by decide +kernel
theorem dX8_init_25 : decode mX8_init.2.1 25 = .ok (.aload_n 0, 1) := by decide +kernel
theorem dX8_init_26 : decode mX8_init.2.1 26 = .ok (.bipush 32, 2) := by decide +kernel
theorem dX8_init_28 : decode mX8_init.2.1 28 = .ok (.newarray .int, 2) := by decide +kernel
theorem dX8_init_30 : decode mX8_init.2.1 30 = .ok (.putfield 22, 3) := by decide +kernel
theorem dX8_init_33 : decode mX8_init.2.1 33 = .ok (.aload_n 0, 1) := by decide +kernel
theorem dX8_init_34 : decode mX8_init.2.1 34 = .ok (.bipush 32, 2) := by decide +kernel
theorem dX8_init_36 : decode mX8_init.2.1 36 = .ok (.newarray .int, 2) := by decide +kernel
theorem dX8_init_38 : decode mX8_init.2.1 38 = .ok (.putfield 25, 3) := by decide +kernel
theorem dX8_init_41 : decode mX8_init.2.1 41 = .ok (.aload_n 0, 1) := by decide +kernel
theorem dX8_init_42 : decode mX8_init.2.1 42 = .ok (.bipush 32, 2) := by decide +kernel
theorem dX8_init_44 : decode mX8_init.2.1 44 = .ok (.newarray .int, 2) := by decide +kernel
theorem dX8_init_46 : decode mX8_init.2.1 46 = .ok (.putfield 28, 3) := by decide +kernel
theorem dX8_init_49 : decode mX8_init.2.1 49 = .ok (.aload_n 0, 1) := by decide +kernel
theorem dX8_init_50 : decode mX8_init.2.1 50 = .ok (.bipush 32, 2) := by decide +kernel
theorem dX8_init_52 : decode mX8_init.2.1 52 = .ok (.newarray .int, 2) := by decide +kernel
theorem dX8_init_54 : decode mX8_init.2.1 54 = .ok (.putfield 31, 3) := by decide +kernel
theorem dX8_init_57 : decode mX8_init.2.1 57 = .ok (.aload_n 0, 1) := by decide +kernel
theorem dX8_init_58 : decode mX8_init.2.1 58 = .ok (.bipush 32, 2) := by decide +kernel
theorem dX8_init_60 : decode mX8_init.2.1 60 = .ok (.newarray .int, 2) := by decide +kernel
theorem dX8_init_62 : decode mX8_init.2.1 62 = .ok (.putfield 34, 3) := by decide +kernel
theorem dX8_init_65 : decode mX8_init.2.1 65 = .ok (.aload_n 0, 1) := by decide +kernel
theorem dX8_init_66 : decode mX8_init.2.1 66 = .ok (.bipush 32, 2) := by decide +kernel
theorem dX8_init_68 : decode mX8_init.2.1 68 = .ok (.newarray .int, 2) := by decide +kernel
theorem dX8_init_70 : decode mX8_init.2.1 70 = .ok (.putfield 37, 3) := by decide +kernel
theorem dX8_init_73 : decode mX8_init.2.1 73 = .ok (.aload_n 0, 1) := by decide +kernel
theorem dX8_init_74 : decode mX8_init.2.1 74 = .ok (.aload_n 1, 1) := by decide +kernel
theorem dX8_init_75 : decode mX8_init.2.1 75 = .ok (.putfield 40, 3) := by decide +kernel
theorem dX8_init_78 : decode mX8_init.2.1 78 = .ok (.aload_n 0, 1) := by decide +kernel
theorem dX8_init_79 : decode mX8_init.2.1 79 = .ok (.aload_n 2, 1) := by decide +kernel
theorem dX8_init_80 : decode mX8_init.2.1 80 = .ok (.putfield 44, 3) := by decide +kernel
theorem dX8_init_83 : decode mX8_init.2.1 83 = .ok (.aload_n 0, 1) := by decide +kernel
theorem dX8_init_84 : decode mX8_init.2.1 84 = .ok (.aload_n 3, 1) := by decide +kernel
theorem dX8_init_85 : decode mX8_init.2.1 85 = .ok (.putfield 48, 3) := by decide +kernel
theorem dX8_init_88 : decode mX8_init.2.1 88 = .ok (.return_, 1) := by decide +kernel
theorem dX8_failed_0 : decode mX8_failed.2.1 0 = .ok (.aload_n 0, 1) := by decide +kernel
theorem dX8_failed_1 : decode mX8_failed.2.1 1 = .ok (.getfield 52, 3) := by decide +kernel
theorem dX8_failed_4 : decode mX8_failed.2.1 4 = .ok (.ireturn, 1) := by decide +kernel
theorem dX8_made_0 : decode mX8_made.2.1 0 = .ok (.aload_n 0, 1) := by decide +kernel
theorem dX8_made_1 : decode mX8_made.2.1 1 = .ok (.getfield 56, 3) := by decide +kernel
theorem dX8_made_4 : decode mX8_made.2.1 4 = .ok (.ireturn, 1) := by decide +kernel
theorem dX8_locks_0 : decode mX8_locks.2.1 0 = .ok (.aload_n 0, 1) := by decide +kernel
theorem dX8_locks_1 : decode mX8_locks.2.1 1 = .ok (.getfield 59, 3) := by decide +kernel
theorem dX8_locks_4 : decode mX8_locks.2.1 4 = .ok (.ireturn, 1) := by decide +kernel
theorem dX8_idleLocks_0 : decode mX8_idleLocks.2.1 0 = .ok (.aload_n 0, 1) := by decide +kernel
theorem dX8_idleLocks_1 : decode mX8_idleLocks.2.1 1 = .ok (.getfield 62, 3) := by decide +kernel
theorem dX8_idleLocks_4 : decode mX8_idleLocks.2.1 4 = .ok (.ireturn, 1) := by decide +kernel
theorem dX8_calls_0 : decode mX8_calls.2.1 0 = .ok (.aload_n 0, 1) := by decide +kernel
theorem dX8_calls_1 : decode mX8_calls.2.1 1 = .ok (.getfield 65, 3) := by decide +kernel
theorem dX8_calls_4 : decode mX8_calls.2.1 4 = .ok (.ireturn, 1) := by decide +kernel
theorem dX8_leaks_0 : decode mX8_leaks.2.1 0 = .ok (.aload_n 0, 1) := by decide +kernel
theorem dX8_leaks_1 : decode mX8_leaks.2.1 1 = .ok (.getfield 68, 3) := by decide +kernel
theorem dX8_leaks_4 : decode mX8_leaks.2.1 4 = .ok (.ireturn, 1) := by decide +kernel
theorem dX8_madeOf_0 : decode mX8_madeOf.2.1 0 = .ok (.iload_n 1, 1) := by decide +kernel
theorem dX8_madeOf_1 : decode mX8_madeOf.2.1 1 = .ok (.bipush 32, 2) := by decide +kernel
theorem dX8_madeOf_3 : decode mX8_madeOf.2.1 3 = .ok (.invokestatic 71, 3) := by decide +kernel
theorem dX8_madeOf_6 : decode mX8_madeOf.2.1 6 = .ok (.ifCond .eq 7, 3) := by decide +kernel
theorem dX8_madeOf_9 : decode mX8_madeOf.2.1 9 = .ok (.iconst 0, 1) := by decide +kernel
theorem dX8_madeOf_10 : decode mX8_madeOf.2.1 10 = .ok (.goto 9, 3) := by decide +kernel
theorem dX8_madeOf_13 : decode mX8_madeOf.2.1 13 = .ok (.aload_n 0, 1) := by decide +kernel
theorem dX8_madeOf_14 : decode mX8_madeOf.2.1 14 = .ok (.getfield 31, 3) := by decide +kernel
theorem dX8_madeOf_17 : decode mX8_madeOf.2.1 17 = .ok (.iload_n 1, 1) := by decide +kernel
theorem dX8_madeOf_18 : decode mX8_madeOf.2.1 18 = .ok (.iaload, 1) := by decide +kernel
theorem dX8_madeOf_19 : decode mX8_madeOf.2.1 19 = .ok (.ireturn, 1) := by decide +kernel
theorem dX8_leaksOf_0 : decode mX8_leaksOf.2.1 0 = .ok (.iload_n 1, 1) := by decide +kernel
theorem dX8_leaksOf_1 : decode mX8_leaksOf.2.1 1 = .ok (.bipush 32, 2) := by decide +kernel
theorem dX8_leaksOf_3 : decode mX8_leaksOf.2.1 3 = .ok (.invokestatic 71, 3) := by decide +kernel
theorem dX8_leaksOf_6 : decode mX8_leaksOf.2.1 6 = .ok (.ifCond .eq 7, 3) := by decide +kernel
theorem dX8_leaksOf_9 : decode mX8_leaksOf.2.1 9 = .ok (.iconst 0, 1) := by decide +kernel
theorem dX8_leaksOf_10 : decode mX8_leaksOf.2.1 10 = .ok (.goto 9, 3) := by decide +kernel
theorem dX8_leaksOf_13 : decode mX8_leaksOf.2.1 13 = .ok (.aload_n 0, 1) := by decide +kernel
theorem dX8_leaksOf_14 : decode mX8_leaksOf.2.1 14 = .ok (.getfield 34, 3) := by decide +kernel
theorem dX8_leaksOf_17 : decode mX8_leaksOf.2.1 17 = .ok (.iload_n 1, 1) := by decide +kernel
theorem dX8_leaksOf_18 : decode mX8_leaksOf.2.1 18 = .ok (.iaload, 1) := by decide +kernel
theorem dX8_leaksOf_19 : decode mX8_leaksOf.2.1 19 = .ok (.ireturn, 1) := by decide +kernel
theorem dX8_locksOf_0 : decode mX8_locksOf.2.1 0 = .ok (.iload_n 1, 1) := by decide +kernel
theorem dX8_locksOf_1 : decode mX8_locksOf.2.1 1 = .ok (.bipush 32, 2) := by decide +kernel
theorem dX8_locksOf_3 : decode mX8_locksOf.2.1 3 = .ok (.invokestatic 71, 3) := by decide +kernel
theorem dX8_locksOf_6 : decode mX8_locksOf.2.1 6 = .ok (.ifCond .eq 7, 3) := by decide +kernel
theorem dX8_locksOf_9 : decode mX8_locksOf.2.1 9 = .ok (.iconst 0, 1) := by decide +kernel
theorem dX8_locksOf_10 : decode mX8_locksOf.2.1 10 = .ok (.goto 9, 3) := by decide +kernel
theorem dX8_locksOf_13 : decode mX8_locksOf.2.1 13 = .ok (.aload_n 0, 1) := by decide +kernel
theorem dX8_locksOf_14 : decode mX8_locksOf.2.1 14 = .ok (.getfield 37, 3) := by decide +kernel
theorem dX8_locksOf_17 : decode mX8_locksOf.2.1 17 = .ok (.iload_n 1, 1) := by decide +kernel
theorem dX8_locksOf_18 : decode mX8_locksOf.2.1 18 = .ok (.iaload, 1) := by decide +kernel
theorem dX8_locksOf_19 : decode mX8_locksOf.2.1 19 = .ok (.ireturn, 1) := by decide +kernel
theorem dX8_siteInOpenPlace_0 : decode mX8_siteInOpenPlace.2.1 0 = .ok (.aload_n 0, 1) := by decide +kernel
theorem dX8_siteInOpenPlace_1 : decode mX8_siteInOpenPlace.2.1 1 = .ok (.aload_n 0, 1) := by decide +kernel
theorem dX8_siteInOpenPlace_2 : decode mX8_siteInOpenPlace.2.1 2 = .ok (.getfield 15, 3) := by decide +kernel
theorem dX8_siteInOpenPlace_5 : decode mX8_siteInOpenPlace.2.1 5 = .ok (.invokevirtual 75, 3) := by decide +kernel
theorem dX8_siteInOpenPlace_8 : decode mX8_siteInOpenPlace.2.1 8 = .ok (.ifCond .eq 15, 3) := by decide +kernel
theorem dX8_siteInOpenPlace_11 : decode mX8_siteInOpenPlace.2.1 11 = .ok (.aload_n 0, 1) := by decide +kernel
theorem dX8_siteInOpenPlace_12 : decode mX8_siteInOpenPlace.2.1 12 = .ok (.getfield 19, 3) := by decide +kernel
theorem dX8_siteInOpenPlace_15 : decode mX8_siteInOpenPlace.2.1 15 = .ok (.aload_n 0, 1) := by decide +kernel
theorem dX8_siteInOpenPlace_16 : decode mX8_siteInOpenPlace.2.1 16 = .ok (.getfield 15, 3) := by decide +kernel
theorem dX8_siteInOpenPlace_19 : decode mX8_siteInOpenPlace.2.1 19 = .ok (.iaload, 1) := by decide +kernel
theorem dX8_siteInOpenPlace_20 : decode mX8_siteInOpenPlace.2.1 20 = .ok (.goto 4, 3) := by decide +kernel
theorem dX8_siteInOpenPlace_23 : decode mX8_siteInOpenPlace.2.1 23 = .ok (.iconst (-1), 1) := by decide +kernel
theorem dX8_siteInOpenPlace_24 : decode mX8_siteInOpenPlace.2.1 24 = .ok (.ireturn, 1) := by decide +kernel
theorem dX8_start_0 : decode mX8_start.2.1 0 = .ok (.aload_n 0, 1) := by decide +kernel
theorem dX8_start_1 : decode mX8_start.2.1 1 = .ok (.iconst 0, 1) := by decide +kernel
theorem dX8_start_2 : decode mX8_start.2.1 2 = .ok (.putfield 52, 3) := by decide +kernel
theorem dX8_start_5 : decode mX8_start.2.1 5 = .ok (.aload_n 0, 1) := by decide +kernel
theorem dX8_start_6 : decode mX8_start.2.1 6 = .ok (.iconst 0, 1) := by decide +kernel
theorem dX8_start_7 : decode mX8_start.2.1 7 = .ok (.putfield 56, 3) := by decide +kernel
theorem dX8_start_10 : decode mX8_start.2.1 10 = .ok (.aload_n 0, 1) := by decide +kernel
theorem dX8_start_11 : decode mX8_start.2.1 11 = .ok (.iconst 0, 1) := by decide +kernel
theorem dX8_start_12 : decode mX8_start.2.1 12 = .ok (.putfield 59, 3) := by decide +kernel
theorem dX8_start_15 : decode mX8_start.2.1 15 = .ok (.aload_n 0, 1) := by decide +kernel
theorem dX8_start_16 : decode mX8_start.2.1 16 = .ok (.iconst 0, 1) := by decide +kernel
theorem dX8_start_17 : decode mX8_start.2.1 17 = .ok (.putfield 62, 3) := by decide +kernel
theorem dX8_start_20 : decode mX8_start.2.1 20 = .ok (.aload_n 0, 1) := by decide +kernel
theorem dX8_start_21 : decode mX8_start.2.1 21 = .ok (.iconst 0, 1) := by decide +kernel
theorem dX8_start_22 : decode mX8_start.2.1 22 = .ok (.putfield 65, 3) := by decide +kernel
theorem dX8_start_25 : decode mX8_start.2.1 25 = .ok (.aload_n 0, 1) := by decide +kernel
theorem dX8_start_26 : decode mX8_start.2.1 26 = .ok (.iconst 0, 1) := by decide +kernel
theorem dX8_start_27 : decode mX8_start.2.1 27 = .ok (.putfield 68, 3) := by decide +kernel
theorem dX8_start_30 : decode mX8_start.2.1 30 = .ok (.aload_n 0, 1) := by decide +kernel
theorem dX8_start_31 : decode mX8_start.2.1 31 = .ok (.iconst (-1), 1) := by decide +kernel
theorem dX8_start_32 : decode mX8_start.2.1 32 = .ok (.putfield 15, 3) := by decide +kernel
theorem dX8_start_35 : decode mX8_start.2.1 35 = .ok (.aload_n 0, 1) := by decide +kernel
theorem dX8_start_36 : decode mX8_start.2.1 36 = .ok (.getfield 31, 3) := by decide +kernel
theorem dX8_start_39 : decode mX8_start.2.1 39 = .ok (.iconst 0, 1) := by decide +kernel
theorem dX8_start_40 : decode mX8_start.2.1 40 = .ok (.invokestatic 79, 3) := by decide +kernel
theorem dX8_start_43 : decode mX8_start.2.1 43 = .ok (.aload_n 0, 1) := by decide +kernel
theorem dX8_start_44 : decode mX8_start.2.1 44 = .ok (.getfield 34, 3) := by decide +kernel
theorem dX8_start_47 : decode mX8_start.2.1 47 = .ok (.iconst 0, 1) := by decide +kernel
theorem dX8_start_48 : decode mX8_start.2.1 48 = .ok (.invokestatic 79, 3) := by decide +kernel
theorem dX8_start_51 : decode mX8_start.2.1 51 = .ok (.aload_n 0, 1) := by decide +kernel
theorem dX8_start_52 : decode mX8_start.2.1 52 = .ok (.getfield 37, 3) := by decide +kernel
theorem dX8_start_55 : decode mX8_start.2.1 55 = .ok (.iconst 0, 1) := by decide +kernel
theorem dX8_start_56 : decode mX8_start.2.1 56 = .ok (.invokestatic 79, 3) := by decide +kernel
theorem dX8_start_59 : decode mX8_start.2.1 59 = .ok (.aload_n 0, 1) := by decide +kernel
theorem dX8_start_60 : decode mX8_start.2.1 60 = .ok (.getfield 40, 3) := by decide +kernel
theorem dX8_start_63 : decode mX8_start.2.1 63 = .ok (.iconst 0, 1) := by decide +kernel
theorem dX8_start_64 : decode mX8_start.2.1 64 = .ok (.invokevirtual 85, 3) := by decide +kernel
theorem dX8_start_67 : decode mX8_start.2.1 67 = .ok (.ifCond .eq 10, 3) := by decide +kernel
theorem dX8_start_70 : decode mX8_start.2.1 70 = .ok (.aload_n 0, 1) := by decide +kernel
theorem dX8_start_71 : decode mX8_start.2.1 71 = .ok (.iconst 0, 1) := by decide +kernel
theorem dX8_start_72 : decode mX8_start.2.1 72 = .ok (.iconst (-1), 1) := by decide +kernel
theorem dX8_start_73 : decode mX8_start.2.1 73 = .ok (.invokevirtual 90, 3) := by decide +kernel
theorem dX8_start_76 : decode mX8_start.2.1 76 = .ok (.pop, 1) := by decide +kernel
theorem dX8_start_77 : decode mX8_start.2.1 77 = .ok (.return_, 1) := by decide +kernel
theorem dX8_callMethod_0 : decode mX8_callMethod.2.1 0 = .ok (.aload_n 0, 1) := by decide +kernel
theorem dX8_callMethod_1 : decode mX8_callMethod.2.1 1 = .ok (.getfield 40, 3) := by decide +kernel
theorem dX8_callMethod_4 : decode mX8_callMethod.2.1 4 = .ok (.iload_n 1, 1) := by decide +kernel
theorem dX8_callMethod_5 : decode mX8_callMethod.2.1 5 = .ok (.invokevirtual 85, 3) := by decide +kernel
theorem dX8_callMethod_8 : decode mX8_callMethod.2.1 8 = .ok (.ifCond .ne 5, 3) := by decide +kernel
theorem dX8_callMethod_11 : decode mX8_callMethod.2.1 11 = .ok (.iconst (-1), 1) := by decide +kernel
theorem dX8_callMethod_12 : decode mX8_callMethod.2.1 12 = .ok (.ireturn, 1) := by decide +kernel
theorem dX8_callMethod_13 : decode mX8_callMethod.2.1 13 = .ok (.aload_n 0, 1) := by decide +kernel
theorem dX8_callMethod_14 : decode mX8_callMethod.2.1 14 = .ok (.dup, 1) := by decide +kernel
theorem dX8_callMethod_15 : decode mX8_callMethod.2.1 15 = .ok (.getfield 65, 3) := by decide +kernel
theorem dX8_callMethod_18 : decode mX8_callMethod.2.1 18 = .ok (.iconst 1, 1) := by decide +kernel
theorem dX8_callMethod_19 : decode mX8_callMethod.2.1 19 = .ok (.iadd, 1) := by decide +kernel
theorem dX8_callMethod_20 : decode mX8_callMethod.2.1 20 = .ok (.putfield 65, 3) := by decide +kernel
theorem dX8_callMethod_23 : decode mX8_callMethod.2.1 23 = .ok (.aload_n 0, 1) := by decide +kernel
theorem dX8_callMethod_24 : decode mX8_callMethod.2.1 24 = .ok (.getfield 65, 3) := by decide +kernel
theorem dX8_callMethod_27 : decode mX8_callMethod.2.1 27 = .ok (.istore_n 3, 1) := by decide +kernel
theorem dX8_callMethod_28 : decode mX8_callMethod.2.1 28 = .ok (.aload_n 0, 1) := by decide +kernel
theorem dX8_callMethod_29 : decode mX8_callMethod.2.1 29 = .ok (.iload_n 1, 1) := by decide +kernel
theorem dX8_callMethod_30 : decode mX8_callMethod.2.1 30 = .ok (.iconst 0, 1) := by decide +kernel
theorem dX8_callMethod_31 : decode mX8_callMethod.2.1 31 = .ok (.iload_n 2, 1) := by decide +kernel
theorem dX8_callMethod_32 : decode mX8_callMethod.2.1 32 = .ok (.invokevirtual 94, 3) := by decide +kernel
theorem dX8_callMethod_35 : decode mX8_callMethod.2.1 35 = .ok (.iconst 1, 1) := by decide +kernel
theorem dX8_callMethod_36 : decode mX8_callMethod.2.1 36 = .ok (.istore 4, 2) := by decide +kernel
theorem dX8_callMethod_38 : decode mX8_callMethod.2.1 38 = .ok (.iload 4, 2) := by decide +kernel
theorem dX8_callMethod_40 : decode mX8_callMethod.2.1 40 = .ok (.iconst 4, 1) := by decide +kernel
theorem dX8_callMethod_41 : decode mX8_callMethod.2.1 41 = .ok (.if_icmp .ge 17, 3) := by decide +kernel
theorem dX8_callMethod_44 : decode mX8_callMethod.2.1 44 = .ok (.aload_n 0, 1) := by decide +kernel
theorem dX8_callMethod_45 : decode mX8_callMethod.2.1 45 = .ok (.iload_n 1, 1) := by decide +kernel
theorem dX8_callMethod_46 : decode mX8_callMethod.2.1 46 = .ok (.iload 4, 2) := by decide +kernel
theorem dX8_callMethod_48 : decode mX8_callMethod.2.1 48 = .ok (.iconst (-1), 1) := by decide +kernel
theorem dX8_callMethod_49 : decode mX8_callMethod.2.1 49 = .ok (.invokevirtual 94, 3) := by decide +kernel
theorem dX8_callMethod_52 : decode mX8_callMethod.2.1 52 = .ok (.iinc 4 1, 3) := by decide +kernel
theorem dX8_callMethod_55 : decode mX8_callMethod.2.1 55 = .ok (.goto (-17), 3) := by decide +kernel
theorem dX8_callMethod_58 : decode mX8_callMethod.2.1 58 = .ok (.iconst 0, 1) := by decide +kernel
theorem dX8_callMethod_59 : decode mX8_callMethod.2.1 59 = .ok (.istore 4, 2) := by decide +kernel
theorem dX8_callMethod_61 : decode mX8_callMethod.2.1 61 = .ok (.iload 4, 2) := by decide +kernel
theorem dX8_callMethod_63 : decode mX8_callMethod.2.1 63 = .ok (.aload_n 0, 1) := by decide +kernel
theorem dX8_callMethod_64 : decode mX8_callMethod.2.1 64 = .ok (.getfield 40, 3) := by decide +kernel
theorem dX8_callMethod_67 : decode mX8_callMethod.2.1 67 = .ok (.iload_n 1, 1) := by decide +kernel
theorem dX8_callMethod_68 : decode mX8_callMethod.2.1 68 = .ok (.invokevirtual 98, 3) := by decide +kernel
theorem dX8_callMethod_71 : decode mX8_callMethod.2.1 71 = .ok (.if_icmp .ge 24, 3) := by decide +kernel
theorem dX8_callMethod_74 : decode mX8_callMethod.2.1 74 = .ok (.aload_n 0, 1) := by decide +kernel
theorem dX8_callMethod_75 : decode mX8_callMethod.2.1 75 = .ok (.getfield 52, 3) := by decide +kernel
theorem dX8_callMethod_78 : decode mX8_callMethod.2.1 78 = .ok (.ifCond .ne 17, 3) := by decide +kernel
theorem dX8_callMethod_81 : decode mX8_callMethod.2.1 81 = .ok (.aload_n 0, 1) := by decide +kernel
theorem dX8_callMethod_82 : decode mX8_callMethod.2.1 82 = .ok (.iload_n 1, 1) := by decide +kernel
theorem dX8_callMethod_83 : decode mX8_callMethod.2.1 83 = .ok (.iload 4, 2) := by decide +kernel
theorem dX8_callMethod_85 : decode mX8_callMethod.2.1 85 = .ok (.iload_n 3, 1) := by decide +kernel
theorem dX8_callMethod_86 : decode mX8_callMethod.2.1 86 = .ok (.invokevirtual 102, 3) := by decide +kernel
theorem dX8_callMethod_89 : decode mX8_callMethod.2.1 89 = .ok (.iinc 4 1, 3) := by decide +kernel
theorem dX8_callMethod_92 : decode mX8_callMethod.2.1 92 = .ok (.goto (-31), 3) := by decide +kernel
theorem dX8_callMethod_95 : decode mX8_callMethod.2.1 95 = .ok (.aload_n 0, 1) := by decide +kernel
theorem dX8_callMethod_96 : decode mX8_callMethod.2.1 96 = .ok (.iload_n 1, 1) := by decide +kernel
theorem dX8_callMethod_97 : decode mX8_callMethod.2.1 97 = .ok (.iconst 3, 1) := by decide +kernel
theorem dX8_callMethod_98 : decode mX8_callMethod.2.1 98 = .ok (.invokevirtual 105, 3) := by decide +kernel
theorem dX8_callMethod_101 : decode mX8_callMethod.2.1 101 = .ok (.istore 4, 2) := by decide +kernel
theorem dX8_callMethod_103 : decode mX8_callMethod.2.1 103 = .ok (.aload_n 0, 1) := by decide +kernel
theorem dX8_callMethod_104 : decode mX8_callMethod.2.1 104 = .ok (.getfield 52, 3) := by decide +kernel
theorem dX8_callMethod_107 : decode mX8_callMethod.2.1 107 = .ok (.ifCond .ne 12, 3) := by decide +kernel
theorem dX8_callMethod_110 : decode mX8_callMethod.2.1 110 = .ok (.aload_n 0, 1) := by decide +kernel
theorem dX8_callMethod_111 : decode mX8_callMethod.2.1 111 = .ok (.iload_n 1, 1) := by decide +kernel
theorem dX8_callMethod_112 : decode mX8_callMethod.2.1 112 = .ok (.iload_n 3, 1) := by decide +kernel
theorem dX8_callMethod_113 : decode mX8_callMethod.2.1 113 = .ok (.iload_n 2, 1) := by decide +kernel
theorem dX8_callMethod_114 : decode mX8_callMethod.2.1 114 = .ok (.iload 4, 2) := by decide +kernel
theorem dX8_callMethod_116 : decode mX8_callMethod.2.1 116 = .ok (.invokevirtual 108, 3) := by decide +kernel
theorem dX8_callMethod_119 : decode mX8_callMethod.2.1 119 = .ok (.iload 4, 2) := by decide +kernel
theorem dX8_callMethod_121 : decode mX8_callMethod.2.1 121 = .ok (.ireturn, 1) := by decide +kernel
theorem dX8_doLine_0 : decode mX8_doLine.2.1 0 = .ok (.aload_n 0, 1) := by decide +kernel
theorem dX8_doLine_1 : decode mX8_doLine.2.1 1 = .ok (.getfield 40, 3) := by decide +kernel
theorem dX8_doLine_4 : decode mX8_doLine.2.1 4 = .ok (.iload_n 1, 1) := by decide +kernel
theorem dX8_doLine_5 : decode mX8_doLine.2.1 5 = .ok (.iload_n 2, 1) := by decide +kernel
theorem dX8_doLine_6 : decode mX8_doLine.2.1 6 = .ok (.invokevirtual 112, 3) := by decide +kernel
theorem dX8_doLine_9 : decode mX8_doLine.2.1 9 = .ok (.istore 4, 2) := by decide +kernel
theorem dX8_doLine_11 : decode mX8_doLine.2.1 11 = .ok (.aload_n 0, 1) := by decide +kernel
theorem dX8_doLine_12 : decode mX8_doLine.2.1 12 = .ok (.iload_n 1, 1) := by decide +kernel
theorem dX8_doLine_13 : decode mX8_doLine.2.1 13 = .ok (.iload 4, 2) := by decide +kernel
theorem dX8_doLine_15 : decode mX8_doLine.2.1 15 = .ok (.invokevirtual 105, 3) := by decide +kernel
theorem dX8_doLine_18 : decode mX8_doLine.2.1 18 = .ok (.istore 5, 2) := by decide +kernel
theorem dX8_doLine_20 : decode mX8_doLine.2.1 20 = .ok (.aload_n 0, 1) := by decide +kernel
theorem dX8_doLine_21 : decode mX8_doLine.2.1 21 = .ok (.iload_n 1, 1) := by decide +kernel
theorem dX8_doLine_22 : decode mX8_doLine.2.1 22 = .ok (.aload_n 0, 1) := by decide +kernel
theorem dX8_doLine_23 : decode mX8_doLine.2.1 23 = .ok (.getfield 40, 3) := by decide +kernel
theorem dX8_doLine_26 : decode mX8_doLine.2.1 26 = .ok (.iload_n 1, 1) := by decide +kernel
theorem dX8_doLine_27 : decode mX8_doLine.2.1 27 = .ok (.iload_n 2, 1) := by decide +kernel
theorem dX8_doLine_28 : decode mX8_doLine.2.1 28 = .ok (.invokevirtual 115, 3) := by decide +kernel
theorem dX8_doLine_31 : decode mX8_doLine.2.1 31 = .ok (.invokevirtual 105, 3) := by decide +kernel
theorem dX8_doLine_34 : decode mX8_doLine.2.1 34 = .ok (.istore 6, 2) := by decide +kernel
theorem dX8_doLine_36 : decode mX8_doLine.2.1 36 = .ok (.aload_n 0, 1) := by decide +kernel
theorem dX8_doLine_37 : decode mX8_doLine.2.1 37 = .ok (.getfield 40, 3) := by decide +kernel
theorem dX8_doLine_40 : decode mX8_doLine.2.1 40 = .ok (.iload_n 1, 1) := by decide +kernel
theorem dX8_doLine_41 : decode mX8_doLine.2.1 41 = .ok (.iload_n 2, 1) := by decide +kernel
theorem dX8_doLine_42 : decode mX8_doLine.2.1 42 = .ok (.invokevirtual 118, 3) := by decide +kernel
theorem dX8_doLine_45 : decode mX8_doLine.2.1 45 = .ok (.tableswitch 150 0 6 #[43, 67, 79, 90, 106, 115, 129], 43) := by decide +kernel
theorem dX8_doLine_88 : decode mX8_doLine.2.1 88 = .ok (.aload_n 0, 1) := by decide +kernel
theorem dX8_doLine_89 : decode mX8_doLine.2.1 89 = .ok (.iload_n 1, 1) := by decide +kernel
theorem dX8_doLine_90 : decode mX8_doLine.2.1 90 = .ok (.iload 4, 2) := by decide +kernel
theorem dX8_doLine_92 : decode mX8_doLine.2.1 92 = .ok (.aload_n 0, 1) := by decide +kernel
theorem dX8_doLine_93 : decode mX8_doLine.2.1 93 = .ok (.aload_n 0, 1) := by decide +kernel
theorem dX8_doLine_94 : decode mX8_doLine.2.1 94 = .ok (.getfield 44, 3) := by decide +kernel
theorem dX8_doLine_97 : decode mX8_doLine.2.1 97 = .ok (.iload_n 1, 1) := by decide +kernel
theorem dX8_doLine_98 : decode mX8_doLine.2.1 98 = .ok (.iload_n 2, 1) := by decide +kernel
theorem dX8_doLine_99 : decode mX8_doLine.2.1 99 = .ok (.invokevirtual 121, 3) := by decide +kernel
theorem dX8_doLine_102 : decode mX8_doLine.2.1 102 = .ok (.iload_n 3, 1) := by decide +kernel
theorem dX8_doLine_103 : decode mX8_doLine.2.1 103 = .ok (.invokevirtual 126, 3) := by decide +kernel
theorem dX8_doLine_106 : decode mX8_doLine.2.1 106 = .ok (.invokevirtual 94, 3) := by decide +kernel
theorem dX8_doLine_109 : decode mX8_doLine.2.1 109 = .ok (.goto 94, 3) := by decide +kernel
theorem dX8_doLine_112 : decode mX8_doLine.2.1 112 = .ok (.aload_n 0, 1) := by decide +kernel
theorem dX8_doLine_113 : decode mX8_doLine.2.1 113 = .ok (.iload_n 1, 1) := by decide +kernel
theorem dX8_doLine_114 : decode mX8_doLine.2.1 114 = .ok (.iload 4, 2) := by decide +kernel
theorem dX8_doLine_116 : decode mX8_doLine.2.1 116 = .ok (.iload 6, 2) := by decide +kernel
theorem dX8_doLine_118 : decode mX8_doLine.2.1 118 = .ok (.invokevirtual 94, 3) := by decide +kernel
theorem dX8_doLine_121 : decode mX8_doLine.2.1 121 = .ok (.goto 82, 3) := by decide +kernel
theorem dX8_doLine_124 : decode mX8_doLine.2.1 124 = .ok (.aload_n 0, 1) := by decide +kernel
theorem dX8_doLine_125 : decode mX8_doLine.2.1 125 = .ok (.iload 5, 2) := by decide +kernel
theorem dX8_doLine_127 : decode mX8_doLine.2.1 127 = .ok (.iload 6, 2) := by decide +kernel
theorem dX8_doLine_129 : decode mX8_doLine.2.1 129 = .ok (.invokevirtual 129, 3) := by decide +kernel
theorem dX8_doLine_132 : decode mX8_doLine.2.1 132 = .ok (.goto 71, 3) := by decide +kernel
theorem dX8_doLine_135 : decode mX8_doLine.2.1 135 = .ok (.aload_n 0, 1) := by decide +kernel
theorem dX8_doLine_136 : decode mX8_doLine.2.1 136 = .ok (.iload_n 1, 1) := by decide +kernel
theorem dX8_doLine_137 : decode mX8_doLine.2.1 137 = .ok (.iload 4, 2) := by decide +kernel
theorem dX8_doLine_139 : decode mX8_doLine.2.1 139 = .ok (.aload_n 0, 1) := by decide +kernel
theorem dX8_doLine_140 : decode mX8_doLine.2.1 140 = .ok (.iload 6, 2) := by decide +kernel
theorem dX8_doLine_142 : decode mX8_doLine.2.1 142 = .ok (.invokevirtual 133, 3) := by decide +kernel
theorem dX8_doLine_145 : decode mX8_doLine.2.1 145 = .ok (.invokevirtual 94, 3) := by decide +kernel
theorem dX8_doLine_148 : decode mX8_doLine.2.1 148 = .ok (.goto 55, 3) := by decide +kernel
theorem dX8_doLine_151 : decode mX8_doLine.2.1 151 = .ok (.aload_n 0, 1) := by decide +kernel
theorem dX8_doLine_152 : decode mX8_doLine.2.1 152 = .ok (.iload 5, 2) := by decide +kernel
theorem dX8_doLine_154 : decode mX8_doLine.2.1 154 = .ok (.putfield 15, 3) := by decide +kernel
theorem dX8_doLine_157 : decode mX8_doLine.2.1 157 = .ok (.goto 46, 3) := by decide +kernel
theorem dX8_doLine_160 : decode mX8_doLine.2.1 160 = .ok (.aload_n 0, 1) := by decide +kernel
theorem dX8_doLine_161 : decode mX8_doLine.2.1 161 = .ok (.iload_n 1, 1) := by decide +kernel
theorem dX8_doLine_162 : decode mX8_doLine.2.1 162 = .ok (.iload 4, 2) := by decide +kernel
theorem dX8_doLine_164 : decode mX8_doLine.2.1 164 = .ok (.aload_n 0, 1) := by decide +kernel
theorem dX8_doLine_165 : decode mX8_doLine.2.1 165 = .ok (.getfield 15, 3) := by decide +kernel
theorem dX8_doLine_168 : decode mX8_doLine.2.1 168 = .ok (.invokevirtual 94, 3) := by decide +kernel
theorem dX8_doLine_171 : decode mX8_doLine.2.1 171 = .ok (.goto 32, 3) := by decide +kernel
theorem dX8_doLine_174 : decode mX8_doLine.2.1 174 = .ok (.aload_n 0, 1) := by decide +kernel
theorem dX8_doLine_175 : decode mX8_doLine.2.1 175 = .ok (.iload 5, 2) := by decide +kernel
theorem dX8_doLine_177 : decode mX8_doLine.2.1 177 = .ok (.aload_n 0, 1) := by decide +kernel
theorem dX8_doLine_178 : decode mX8_doLine.2.1 178 = .ok (.getfield 48, 3) := by decide +kernel
theorem dX8_doLine_181 : decode mX8_doLine.2.1 181 = .ok (.iload_n 1, 1) := by decide +kernel
theorem dX8_doLine_182 : decode mX8_doLine.2.1 182 = .ok (.invokevirtual 136, 3) := by decide +kernel
theorem dX8_doLine_185 : decode mX8_doLine.2.1 185 = .ok (.iload_n 2, 1) := by decide +kernel
theorem dX8_doLine_186 : decode mX8_doLine.2.1 186 = .ok (.ishr, 1) := by decide +kernel
theorem dX8_doLine_187 : decode mX8_doLine.2.1 187 = .ok (.iconst 1, 1) := by decide +kernel
theorem dX8_doLine_188 : decode mX8_doLine.2.1 188 = .ok (.iand, 1) := by decide +kernel
theorem dX8_doLine_189 : decode mX8_doLine.2.1 189 = .ok (.invokevirtual 141, 3) := by decide +kernel
theorem dX8_doLine_192 : decode mX8_doLine.2.1 192 = .ok (.goto 11, 3) := by decide +kernel
theorem dX8_doLine_195 : decode mX8_doLine.2.1 195 = .ok (.aload_n 0, 1) := by decide +kernel
theorem dX8_doLine_196 : decode mX8_doLine.2.1 196 = .ok (.iload_n 1, 1) := by decide +kernel
theorem dX8_doLine_197 : decode mX8_doLine.2.1 197 = .ok (.iload_n 2, 1) := by decide +kernel
theorem dX8_doLine_198 : decode mX8_doLine.2.1 198 = .ok (.iload 6, 2) := by decide +kernel
theorem dX8_doLine_200 : decode mX8_doLine.2.1 200 = .ok (.invokevirtual 144, 3) := by decide +kernel
theorem dX8_doLine_203 : decode mX8_doLine.2.1 203 = .ok (.return_, 1) := by decide +kernel
theorem dX8_callFrom_0 : decode mX8_callFrom.2.1 0 = .ok (.aload_n 0, 1) := by decide +kernel
theorem dX8_callFrom_1 : decode mX8_callFrom.2.1 1 = .ok (.getfield 40, 3) := by decide +kernel
theorem dX8_callFrom_4 : decode mX8_callFrom.2.1 4 = .ok (.iload_n 1, 1) := by decide +kernel
theorem dX8_callFrom_5 : decode mX8_callFrom.2.1 5 = .ok (.iload_n 2, 1) := by decide +kernel
theorem dX8_callFrom_6 : decode mX8_callFrom.2.1 6 = .ok (.invokevirtual 147, 3) := by decide +kernel
theorem dX8_callFrom_9 : decode mX8_callFrom.2.1 9 = .ok (.istore 4, 2) := by decide +kernel
theorem dX8_callFrom_11 : decode mX8_callFrom.2.1 11 = .ok (.iload 4, 2) := by decide +kernel
theorem dX8_callFrom_13 : decode mX8_callFrom.2.1 13 = .ok (.iload_n 1, 1) := by decide +kernel
theorem dX8_callFrom_14 : decode mX8_callFrom.2.1 14 = .ok (.if_icmp .le 24, 3) := by decide +kernel
theorem dX8_callFrom_17 : decode mX8_callFrom.2.1 17 = .ok (.aload_n 0, 1) := by decide +kernel
theorem dX8_callFrom_18 : decode mX8_callFrom.2.1 18 = .ok (.iload_n 1, 1) := by decide +kernel
theorem dX8_callFrom_19 : decode mX8_callFrom.2.1 19 = .ok (.aload_n 0, 1) := by decide +kernel
theorem dX8_callFrom_20 : decode mX8_callFrom.2.1 20 = .ok (.getfield 40, 3) := by decide +kernel
theorem dX8_callFrom_23 : decode mX8_callFrom.2.1 23 = .ok (.iload_n 1, 1) := by decide +kernel
theorem dX8_callFrom_24 : decode mX8_callFrom.2.1 24 = .ok (.iload_n 2, 1) := by decide +kernel
theorem dX8_callFrom_25 : decode mX8_callFrom.2.1 25 = .ok (.invokevirtual 112, 3) := by decide +kernel
theorem dX8_callFrom_28 : decode mX8_callFrom.2.1 28 = .ok (.aload_n 0, 1) := by decide +kernel
theorem dX8_callFrom_29 : decode mX8_callFrom.2.1 29 = .ok (.iload 4, 2) := by decide +kernel
theorem dX8_callFrom_31 : decode mX8_callFrom.2.1 31 = .ok (.iload_n 3, 1) := by decide +kernel
theorem dX8_callFrom_32 : decode mX8_callFrom.2.1 32 = .ok (.invokevirtual 90, 3) := by decide +kernel
theorem dX8_callFrom_35 : decode mX8_callFrom.2.1 35 = .ok (.invokevirtual 94, 3) := by decide +kernel
theorem dX8_callFrom_38 : decode mX8_callFrom.2.1 38 = .ok (.return_, 1) := by decide +kernel
theorem dX8_newThing_0 : decode mX8_newThing.2.1 0 = .ok (.aload_n 0, 1) := by decide +kernel
theorem dX8_newThing_1 : decode mX8_newThing.2.1 1 = .ok (.getfield 56, 3) := by decide +kernel
theorem dX8_newThing_4 : decode mX8_newThing.2.1 4 = .ok (.sipush 4096, 3) := by decide +kernel
theorem dX8_newThing_7 : decode mX8_newThing.2.1 7 = .ok (.if_icmp .ge 12, 3) := by decide +kernel
theorem dX8_newThing_10 : decode mX8_newThing.2.1 10 = .ok (.iload_n 1, 1) := by decide +kernel
theorem dX8_newThing_11 : decode mX8_newThing.2.1 11 = .ok (.bipush 32, 2) := by decide +kernel
theorem dX8_newThing_13 : decode mX8_newThing.2.1 13 = .ok (.invokestatic 71, 3) := by decide +kernel
theorem dX8_newThing_16 : decode mX8_newThing.2.1 16 = .ok (.ifCond .eq 5, 3) := by decide +kernel
theorem dX8_newThing_19 : decode mX8_newThing.2.1 19 = .ok (.iconst (-1), 1) := by decide +kernel
theorem dX8_newThing_20 : decode mX8_newThing.2.1 20 = .ok (.ireturn, 1) := by decide +kernel
theorem dX8_newThing_21 : decode mX8_newThing.2.1 21 = .ok (.aload_n 0, 1) := by decide +kernel
theorem dX8_newThing_22 : decode mX8_newThing.2.1 22 = .ok (.getfield 56, 3) := by decide +kernel
theorem dX8_newThing_25 : decode mX8_newThing.2.1 25 = .ok (.aload_n 0, 1) := by decide +kernel
theorem dX8_newThing_26 : decode mX8_newThing.2.1 26 = .ok (.getfield 19, 3) := by decide +kernel
theorem dX8_newThing_29 : decode mX8_newThing.2.1 29 = .ok (.arraylength, 1) := by decide +kernel
theorem dX8_newThing_30 : decode mX8_newThing.2.1 30 = .ok (.if_icmp .lt 7, 3) := by decide +kernel
theorem dX8_newThing_33 : decode mX8_newThing.2.1 33 = .ok (.aload_n 0, 1) := by decide +kernel
theorem dX8_newThing_34 : decode mX8_newThing.2.1 34 = .ok (.invokevirtual 150, 3) := by decide +kernel
theorem dX8_newThing_37 : decode mX8_newThing.2.1 37 = .ok (.aload_n 0, 1) := by decide +kernel
theorem dX8_newThing_38 : decode mX8_newThing.2.1 38 = .ok (.getfield 19, 3) := by decide +kernel
theorem dX8_newThing_41 : decode mX8_newThing.2.1 41 = .ok (.aload_n 0, 1) := by decide +kernel
theorem dX8_newThing_42 : decode mX8_newThing.2.1 42 = .ok (.getfield 56, 3) := by decide +kernel
theorem dX8_newThing_45 : decode mX8_newThing.2.1 45 = .ok (.iload_n 1, 1) := by decide +kernel
theorem dX8_newThing_46 : decode mX8_newThing.2.1 46 = .ok (.iastore, 1) := by decide +kernel
theorem dX8_newThing_47 : decode mX8_newThing.2.1 47 = .ok (.aload_n 0, 1) := by decide +kernel
theorem dX8_newThing_48 : decode mX8_newThing.2.1 48 = .ok (.getfield 22, 3) := by decide +kernel
theorem dX8_newThing_51 : decode mX8_newThing.2.1 51 = .ok (.aload_n 0, 1) := by decide +kernel
theorem dX8_newThing_52 : decode mX8_newThing.2.1 52 = .ok (.getfield 56, 3) := by decide +kernel
theorem dX8_newThing_55 : decode mX8_newThing.2.1 55 = .ok (.iconst (-1), 1) := by decide +kernel
theorem dX8_newThing_56 : decode mX8_newThing.2.1 56 = .ok (.iastore, 1) := by decide +kernel
theorem dX8_newThing_57 : decode mX8_newThing.2.1 57 = .ok (.aload_n 0, 1) := by decide +kernel
theorem dX8_newThing_58 : decode mX8_newThing.2.1 58 = .ok (.getfield 25, 3) := by decide +kernel
theorem dX8_newThing_61 : decode mX8_newThing.2.1 61 = .ok (.aload_n 0, 1) := by decide +kernel
theorem dX8_newThing_62 : decode mX8_newThing.2.1 62 = .ok (.getfield 56, 3) := by decide +kernel
theorem dX8_newThing_65 : decode mX8_newThing.2.1 65 = .ok (.iload_n 2, 1) := by decide +kernel
theorem dX8_newThing_66 : decode mX8_newThing.2.1 66 = .ok (.iastore, 1) := by decide +kernel
theorem dX8_newThing_67 : decode mX8_newThing.2.1 67 = .ok (.aload_n 0, 1) := by decide +kernel
theorem dX8_newThing_68 : decode mX8_newThing.2.1 68 = .ok (.getfield 28, 3) := by decide +kernel
theorem dX8_newThing_71 : decode mX8_newThing.2.1 71 = .ok (.aload_n 0, 1) := by decide +kernel
theorem dX8_newThing_72 : decode mX8_newThing.2.1 72 = .ok (.getfield 56, 3) := by decide +kernel
theorem dX8_newThing_75 : decode mX8_newThing.2.1 75 = .ok (.iconst 0, 1) := by decide +kernel
theorem dX8_newThing_76 : decode mX8_newThing.2.1 76 = .ok (.iastore, 1) := by decide +kernel
theorem dX8_newThing_77 : decode mX8_newThing.2.1 77 = .ok (.aload_n 0, 1) := by decide +kernel
theorem dX8_newThing_78 : decode mX8_newThing.2.1 78 = .ok (.getfield 31, 3) := by decide +kernel
theorem dX8_newThing_81 : decode mX8_newThing.2.1 81 = .ok (.iload_n 1, 1) := by decide +kernel
theorem dX8_newThing_82 : decode mX8_newThing.2.1 82 = .ok (.dup2, 1) := by decide +kernel
theorem dX8_newThing_83 : decode mX8_newThing.2.1 83 = .ok (.iaload, 1) := by decide +kernel
theorem dX8_newThing_84 : decode mX8_newThing.2.1 84 = .ok (.iconst 1, 1) := by decide +kernel
theorem dX8_newThing_85 : decode mX8_newThing.2.1 85 = .ok (.iadd, 1) := by decide +kernel
theorem dX8_newThing_86 : decode mX8_newThing.2.1 86 = .ok (.iastore, 1) := by decide +kernel
theorem dX8_newThing_87 : decode mX8_newThing.2.1 87 = .ok (.aload_n 0, 1) := by decide +kernel
theorem dX8_newThing_88 : decode mX8_newThing.2.1 88 = .ok (.dup, 1) := by decide +kernel
theorem dX8_newThing_89 : decode mX8_newThing.2.1 89 = .ok (.getfield 56, 3) := by decide +kernel
theorem dX8_newThing_92 : decode mX8_newThing.2.1 92 = .ok (.iconst 1, 1) := by decide +kernel
theorem dX8_newThing_93 : decode mX8_newThing.2.1 93 = .ok (.iadd, 1) := by decide +kernel
theorem dX8_newThing_94 : decode mX8_newThing.2.1 94 = .ok (.putfield 56, 3) := by decide +kernel
theorem dX8_newThing_97 : decode mX8_newThing.2.1 97 = .ok (.aload_n 0, 1) := by decide +kernel
theorem dX8_newThing_98 : decode mX8_newThing.2.1 98 = .ok (.getfield 56, 3) := by decide +kernel
theorem dX8_newThing_101 : decode mX8_newThing.2.1 101 = .ok (.iconst 1, 1) := by decide +kernel
theorem dX8_newThing_102 : decode mX8_newThing.2.1 102 = .ok (.isub, 1) := by decide +kernel
theorem dX8_newThing_103 : decode mX8_newThing.2.1 103 = .ok (.ireturn, 1) := by decide +kernel
theorem dX8_makeMoreRoom_0 : decode mX8_makeMoreRoom.2.1 0 = .ok (.aload_n 0, 1) := by decide +kernel
theorem dX8_makeMoreRoom_1 : decode mX8_makeMoreRoom.2.1 1 = .ok (.getfield 19, 3) := by decide +kernel
theorem dX8_makeMoreRoom_4 : decode mX8_makeMoreRoom.2.1 4 = .ok (.arraylength, 1) := by decide +kernel
theorem dX8_makeMoreRoom_5 : decode mX8_makeMoreRoom.2.1 5 = .ok (.iconst 2, 1) := by decide +kernel
theorem dX8_makeMoreRoom_6 : decode mX8_makeMoreRoom.2.1 6 = .ok (.imul, 1) := by decide +kernel
theorem dX8_makeMoreRoom_7 : decode mX8_makeMoreRoom.2.1 7 = .ok (.istore_n 1, 1) := by decide +kernel
theorem dX8_makeMoreRoom_8 : decode mX8_makeMoreRoom.2.1 8 = .ok (.aload_n 0, 1) := by decide +kernel
theorem dX8_makeMoreRoom_9 : decode mX8_makeMoreRoom.2.1 9 = .ok (.aload_n 0, 1) := by decide +kernel
theorem dX8_makeMoreRoom_10 : decode mX8_makeMoreRoom.2.1 10 = .ok (.getfield 19, 3) := by decide +kernel
theorem dX8_makeMoreRoom_13 : decode mX8_makeMoreRoom.2.1 13 = .ok (.iload_n 1, 1) := by decide +kernel
theorem dX8_makeMoreRoom_14 : decode mX8_makeMoreRoom.2.1 14 = .ok (.invokestatic 153, 3) := by decide +kernel
theorem dX8_makeMoreRoom_17 : decode mX8_makeMoreRoom.2.1 17 = .ok (.putfield 19, 3) := by decide +kernel
theorem dX8_makeMoreRoom_20 : decode mX8_makeMoreRoom.2.1 20 = .ok (.aload_n 0, 1) := by decide +kernel
theorem dX8_makeMoreRoom_21 : decode mX8_makeMoreRoom.2.1 21 = .ok (.aload_n 0, 1) := by decide +kernel
theorem dX8_makeMoreRoom_22 : decode mX8_makeMoreRoom.2.1 22 = .ok (.getfield 22, 3) := by decide +kernel
theorem dX8_makeMoreRoom_25 : decode mX8_makeMoreRoom.2.1 25 = .ok (.iload_n 1, 1) := by decide +kernel
theorem dX8_makeMoreRoom_26 : decode mX8_makeMoreRoom.2.1 26 = .ok (.invokestatic 153, 3) := by decide +kernel
theorem dX8_makeMoreRoom_29 : decode mX8_makeMoreRoom.2.1 29 = .ok (.putfield 22, 3) := by decide +kernel
theorem dX8_makeMoreRoom_32 : decode mX8_makeMoreRoom.2.1 32 = .ok (.aload_n 0, 1) := by decide +kernel
theorem dX8_makeMoreRoom_33 : decode mX8_makeMoreRoom.2.1 33 = .ok (.aload_n 0, 1) := by decide +kernel
theorem dX8_makeMoreRoom_34 : decode mX8_makeMoreRoom.2.1 34 = .ok (.getfield 25, 3) := by decide +kernel
theorem dX8_makeMoreRoom_37 : decode mX8_makeMoreRoom.2.1 37 = .ok (.iload_n 1, 1) := by decide +kernel
theorem dX8_makeMoreRoom_38 : decode mX8_makeMoreRoom.2.1 38 = .ok (.invokestatic 153, 3) := by decide +kernel
theorem dX8_makeMoreRoom_41 : decode mX8_makeMoreRoom.2.1 41 = .ok (.putfield 25, 3) := by decide +kernel
theorem dX8_makeMoreRoom_44 : decode mX8_makeMoreRoom.2.1 44 = .ok (.aload_n 0, 1) := by decide +kernel
theorem dX8_makeMoreRoom_45 : decode mX8_makeMoreRoom.2.1 45 = .ok (.aload_n 0, 1) := by decide +kernel
theorem dX8_makeMoreRoom_46 : decode mX8_makeMoreRoom.2.1 46 = .ok (.getfield 28, 3) := by decide +kernel
theorem dX8_makeMoreRoom_49 : decode mX8_makeMoreRoom.2.1 49 = .ok (.iload_n 1, 1) := by decide +kernel
theorem dX8_makeMoreRoom_50 : decode mX8_makeMoreRoom.2.1 50 = .ok (.invokestatic 153, 3) := by decide +kernel
theorem dX8_makeMoreRoom_53 : decode mX8_makeMoreRoom.2.1 53 = .ok (.putfield 28, 3) := by decide +kernel
theorem dX8_makeMoreRoom_56 : decode mX8_makeMoreRoom.2.1 56 = .ok (.return_, 1) := by decide +kernel
theorem dX8_putIntoField_0 : decode mX8_putIntoField.2.1 0 = .ok (.aload_n 0, 1) := by decide +kernel
theorem dX8_putIntoField_1 : decode mX8_putIntoField.2.1 1 = .ok (.iload_n 1, 1) := by decide +kernel
theorem dX8_putIntoField_2 : decode mX8_putIntoField.2.1 2 = .ok (.invokevirtual 75, 3) := by decide +kernel
theorem dX8_putIntoField_5 : decode mX8_putIntoField.2.1 5 = .ok (.ifCond .eq 13, 3) := by decide +kernel
theorem dX8_putIntoField_8 : decode mX8_putIntoField.2.1 8 = .ok (.aload_n 0, 1) := by decide +kernel
theorem dX8_putIntoField_9 : decode mX8_putIntoField.2.1 9 = .ok (.getfield 22, 3) := by decide +kernel
theorem dX8_putIntoField_12 : decode mX8_putIntoField.2.1 12 = .ok (.iload_n 1, 1) := by decide +kernel
theorem dX8_putIntoField_13 : decode mX8_putIntoField.2.1 13 = .ok (.iload_n 2, 1) := by decide +kernel
theorem dX8_putIntoField_14 : decode mX8_putIntoField.2.1 14 = .ok (.iastore, 1) := by decide +kernel
theorem dX8_putIntoField_15 : decode mX8_putIntoField.2.1 15 = .ok (.goto 8, 3) := by decide +kernel
theorem dX8_putIntoField_18 : decode mX8_putIntoField.2.1 18 = .ok (.aload_n 0, 1) := by decide +kernel
theorem dX8_putIntoField_19 : decode mX8_putIntoField.2.1 19 = .ok (.iconst 1, 1) := by decide +kernel
theorem dX8_putIntoField_20 : decode mX8_putIntoField.2.1 20 = .ok (.putfield 52, 3) := by decide +kernel
theorem dX8_putIntoField_23 : decode mX8_putIntoField.2.1 23 = .ok (.return_, 1) := by decide +kernel
theorem dX8_takeFromField_0 : decode mX8_takeFromField.2.1 0 = .ok (.aload_n 0, 1) := by decide +kernel
theorem dX8_takeFromField_1 : decode mX8_takeFromField.2.1 1 = .ok (.iload_n 1, 1) := by decide +kernel
theorem dX8_takeFromField_2 : decode mX8_takeFromField.2.1 2 = .ok (.invokevirtual 75, 3) := by decide +kernel
theorem dX8_takeFromField_5 : decode mX8_takeFromField.2.1 5 = .ok (.ifCond .eq 10, 3) := by decide +kernel
theorem dX8_takeFromField_8 : decode mX8_takeFromField.2.1 8 = .ok (.aload_n 0, 1) := by decide +kernel
theorem dX8_takeFromField_9 : decode mX8_takeFromField.2.1 9 = .ok (.getfield 22, 3) := by decide +kernel
theorem dX8_takeFromField_12 : decode mX8_takeFromField.2.1 12 = .ok (.iload_n 1, 1) := by decide +kernel
theorem dX8_takeFromField_13 : decode mX8_takeFromField.2.1 13 = .ok (.iaload, 1) := by decide +kernel
theorem dX8_takeFromField_14 : decode mX8_takeFromField.2.1 14 = .ok (.ireturn, 1) := by decide +kernel
theorem dX8_takeFromField_15 : decode mX8_takeFromField.2.1 15 = .ok (.aload_n 0, 1) := by decide +kernel
theorem dX8_takeFromField_16 : decode mX8_takeFromField.2.1 16 = .ok (.iconst 1, 1) := by decide +kernel
theorem dX8_takeFromField_17 : decode mX8_takeFromField.2.1 17 = .ok (.putfield 52, 3) := by decide +kernel
theorem dX8_takeFromField_20 : decode mX8_takeFromField.2.1 20 = .ok (.iconst (-1), 1) := by decide +kernel
theorem dX8_takeFromField_21 : decode mX8_takeFromField.2.1 21 = .ok (.ireturn, 1) := by decide +kernel
theorem dX8_lock_0 : decode mX8_lock.2.1 0 = .ok (.aload_n 0, 1) := by decide +kernel
theorem dX8_lock_1 : decode mX8_lock.2.1 1 = .ok (.iload_n 1, 1) := by decide +kernel
theorem dX8_lock_2 : decode mX8_lock.2.1 2 = .ok (.invokevirtual 75, 3) := by decide +kernel
theorem dX8_lock_5 : decode mX8_lock.2.1 5 = .ok (.ifCond .eq 41, 3) := by decide +kernel
theorem dX8_lock_8 : decode mX8_lock.2.1 8 = .ok (.aload_n 0, 1) := by decide +kernel
theorem dX8_lock_9 : decode mX8_lock.2.1 9 = .ok (.dup, 1) := by decide +kernel
theorem dX8_lock_10 : decode mX8_lock.2.1 10 = .ok (.getfield 59, 3) := by decide +kernel
theorem dX8_lock_13 : decode mX8_lock.2.1 13 = .ok (.iconst 1, 1) := by decide +kernel
theorem dX8_lock_14 : decode mX8_lock.2.1 14 = .ok (.iadd, 1) := by decide +kernel
theorem dX8_lock_15 : decode mX8_lock.2.1 15 = .ok (.putfield 59, 3) := by decide +kernel
theorem dX8_lock_18 : decode mX8_lock.2.1 18 = .ok (.aload_n 0, 1) := by decide +kernel
theorem dX8_lock_19 : decode mX8_lock.2.1 19 = .ok (.dup, 1) := by decide +kernel
theorem dX8_lock_20 : decode mX8_lock.2.1 20 = .ok (.getfield 62, 3) := by decide +kernel
theorem dX8_lock_23 : decode mX8_lock.2.1 23 = .ok (.iload_n 2, 1) := by decide +kernel
theorem dX8_lock_24 : decode mX8_lock.2.1 24 = .ok (.iadd, 1) := by decide +kernel
theorem dX8_lock_25 : decode mX8_lock.2.1 25 = .ok (.putfield 62, 3) := by decide +kernel
theorem dX8_lock_28 : decode mX8_lock.2.1 28 = .ok (.aload_n 0, 1) := by decide +kernel
theorem dX8_lock_29 : decode mX8_lock.2.1 29 = .ok (.getfield 37, 3) := by decide +kernel
theorem dX8_lock_32 : decode mX8_lock.2.1 32 = .ok (.aload_n 0, 1) := by decide +kernel
theorem dX8_lock_33 : decode mX8_lock.2.1 33 = .ok (.getfield 19, 3) := by decide +kernel
theorem dX8_lock_36 : decode mX8_lock.2.1 36 = .ok (.iload_n 1, 1) := by decide +kernel
theorem dX8_lock_37 : decode mX8_lock.2.1 37 = .ok (.iaload, 1) := by decide +kernel
theorem dX8_lock_38 : decode mX8_lock.2.1 38 = .ok (.dup2, 1) := by decide +kernel
theorem dX8_lock_39 : decode mX8_lock.2.1 39 = .ok (.iaload, 1) := by decide +kernel
theorem dX8_lock_40 : decode mX8_lock.2.1 40 = .ok (.iconst 1, 1) := by decide +kernel
theorem dX8_lock_41 : decode mX8_lock.2.1 41 = .ok (.iadd, 1) := by decide +kernel
theorem dX8_lock_42 : decode mX8_lock.2.1 42 = .ok (.iastore, 1) := by decide +kernel
theorem dX8_lock_43 : decode mX8_lock.2.1 43 = .ok (.goto 8, 3) := by decide +kernel
theorem dX8_lock_46 : decode mX8_lock.2.1 46 = .ok (.aload_n 0, 1) := by decide +kernel
theorem dX8_lock_47 : decode mX8_lock.2.1 47 = .ok (.iconst 1, 1) := by decide +kernel
theorem dX8_lock_48 : decode mX8_lock.2.1 48 = .ok (.putfield 52, 3) := by decide +kernel
theorem dX8_lock_51 : decode mX8_lock.2.1 51 = .ok (.return_, 1) := by decide +kernel
theorem dX8_findLeaks_0 : decode mX8_findLeaks.2.1 0 = .ok (.aload_n 0, 1) := by decide +kernel
theorem dX8_findLeaks_1 : decode mX8_findLeaks.2.1 1 = .ok (.getfield 44, 3) := by decide +kernel
theorem dX8_findLeaks_4 : decode mX8_findLeaks.2.1 4 = .ok (.iload_n 1, 1) := by decide +kernel
theorem dX8_findLeaks_5 : decode mX8_findLeaks.2.1 5 = .ok (.invokevirtual 157, 3) := by decide +kernel
theorem dX8_findLeaks_8 : decode mX8_findLeaks.2.1 8 = .ok (.istore 5, 2) := by decide +kernel
theorem dX8_findLeaks_10 : decode mX8_findLeaks.2.1 10 = .ok (.aload_n 0, 1) := by decide +kernel
theorem dX8_findLeaks_11 : decode mX8_findLeaks.2.1 11 = .ok (.iload 4, 2) := by decide +kernel
theorem dX8_findLeaks_13 : decode mX8_findLeaks.2.1 13 = .ok (.iload_n 2, 1) := by decide +kernel
theorem dX8_findLeaks_14 : decode mX8_findLeaks.2.1 14 = .ok (.iload 5, 2) := by decide +kernel
theorem dX8_findLeaks_16 : decode mX8_findLeaks.2.1 16 = .ok (.invokevirtual 160, 3) := by decide +kernel
theorem dX8_findLeaks_19 : decode mX8_findLeaks.2.1 19 = .ok (.istore 5, 2) := by decide +kernel
theorem dX8_findLeaks_21 : decode mX8_findLeaks.2.1 21 = .ok (.aload_n 0, 1) := by decide +kernel
theorem dX8_findLeaks_22 : decode mX8_findLeaks.2.1 22 = .ok (.iload_n 3, 1) := by decide +kernel
theorem dX8_findLeaks_23 : decode mX8_findLeaks.2.1 23 = .ok (.iload_n 2, 1) := by decide +kernel
theorem dX8_findLeaks_24 : decode mX8_findLeaks.2.1 24 = .ok (.iload 5, 2) := by decide +kernel
theorem dX8_findLeaks_26 : decode mX8_findLeaks.2.1 26 = .ok (.invokevirtual 160, 3) := by decide +kernel
theorem dX8_findLeaks_29 : decode mX8_findLeaks.2.1 29 = .ok (.istore 5, 2) := by decide +kernel
theorem dX8_findLeaks_31 : decode mX8_findLeaks.2.1 31 = .ok (.aload_n 0, 1) := by decide +kernel
theorem dX8_findLeaks_32 : decode mX8_findLeaks.2.1 32 = .ok (.aload_n 0, 1) := by decide +kernel
theorem dX8_findLeaks_33 : decode mX8_findLeaks.2.1 33 = .ok (.getfield 15, 3) := by decide +kernel
theorem dX8_findLeaks_36 : decode mX8_findLeaks.2.1 36 = .ok (.iload_n 2, 1) := by decide +kernel
theorem dX8_findLeaks_37 : decode mX8_findLeaks.2.1 37 = .ok (.iload 5, 2) := by decide +kernel
theorem dX8_findLeaks_39 : decode mX8_findLeaks.2.1 39 = .ok (.invokevirtual 160, 3) := by decide +kernel
theorem dX8_findLeaks_42 : decode mX8_findLeaks.2.1 42 = .ok (.pop, 1) := by decide +kernel
theorem dX8_findLeaks_43 : decode mX8_findLeaks.2.1 43 = .ok (.return_, 1) := by decide +kernel
theorem dX8_followFrom_0 : decode mX8_followFrom.2.1 0 = .ok (.iload_n 3, 1) := by decide +kernel
theorem dX8_followFrom_1 : decode mX8_followFrom.2.1 1 = .ok (.istore 4, 2) := by decide +kernel
theorem dX8_followFrom_3 : decode mX8_followFrom.2.1 3 = .ok (.iload_n 1, 1) := by decide +kernel
theorem dX8_followFrom_4 : decode mX8_followFrom.2.1 4 = .ok (.istore 5, 2) := by decide +kernel
theorem dX8_followFrom_6 : decode mX8_followFrom.2.1 6 = .ok (.iconst 0, 1) := by decide +kernel
theorem dX8_followFrom_7 : decode mX8_followFrom.2.1 7 = .ok (.istore 6, 2) := by decide +kernel
theorem dX8_followFrom_9 : decode mX8_followFrom.2.1 9 = .ok (.iload 6, 2) := by decide +kernel
theorem dX8_followFrom_11 : decode mX8_followFrom.2.1 11 = .ok (.aload_n 0, 1) := by decide +kernel
theorem dX8_followFrom_12 : decode mX8_followFrom.2.1 12 = .ok (.getfield 56, 3) := by decide +kernel
theorem dX8_followFrom_15 : decode mX8_followFrom.2.1 15 = .ok (.if_icmp .ge 91, 3) := by decide +kernel
theorem dX8_followFrom_18 : decode mX8_followFrom.2.1 18 = .ok (.iload 4, 2) := by decide +kernel
theorem dX8_followFrom_20 : decode mX8_followFrom.2.1 20 = .ok (.ifCond .le 86, 3) := by decide +kernel
theorem dX8_followFrom_23 : decode mX8_followFrom.2.1 23 = .ok (.aload_n 0, 1) := by decide +kernel
theorem dX8_followFrom_24 : decode mX8_followFrom.2.1 24 = .ok (.iload 5, 2) := by decide +kernel
theorem dX8_followFrom_26 : decode mX8_followFrom.2.1 26 = .ok (.invokevirtual 75, 3) := by decide +kernel
theorem dX8_followFrom_29 : decode mX8_followFrom.2.1 29 = .ok (.ifCond .eq 77, 3) := by decide +kernel
theorem dX8_followFrom_32 : decode mX8_followFrom.2.1 32 = .ok (.aload_n 0, 1) := by decide +kernel
theorem dX8_followFrom_33 : decode mX8_followFrom.2.1 33 = .ok (.getfield 28, 3) := by decide +kernel
theorem dX8_followFrom_36 : decode mX8_followFrom.2.1 36 = .ok (.iload 5, 2) := by decide +kernel
theorem dX8_followFrom_38 : decode mX8_followFrom.2.1 38 = .ok (.iaload, 1) := by decide +kernel
theorem dX8_followFrom_39 : decode mX8_followFrom.2.1 39 = .ok (.iload_n 2, 1) := by decide +kernel
theorem dX8_followFrom_40 : decode mX8_followFrom.2.1 40 = .ok (.if_icmp .eq 66, 3) := by decide +kernel
theorem dX8_followFrom_43 : decode mX8_followFrom.2.1 43 = .ok (.aload_n 0, 1) := by decide +kernel
theorem dX8_followFrom_44 : decode mX8_followFrom.2.1 44 = .ok (.getfield 28, 3) := by decide +kernel
theorem dX8_followFrom_47 : decode mX8_followFrom.2.1 47 = .ok (.iload 5, 2) := by decide +kernel
theorem dX8_followFrom_49 : decode mX8_followFrom.2.1 49 = .ok (.iload_n 2, 1) := by decide +kernel
theorem dX8_followFrom_50 : decode mX8_followFrom.2.1 50 = .ok (.iastore, 1) := by decide +kernel
theorem dX8_followFrom_51 : decode mX8_followFrom.2.1 51 = .ok (.aload_n 0, 1) := by decide +kernel
theorem dX8_followFrom_52 : decode mX8_followFrom.2.1 52 = .ok (.getfield 25, 3) := by decide +kernel
theorem dX8_followFrom_55 : decode mX8_followFrom.2.1 55 = .ok (.iload 5, 2) := by decide +kernel
theorem dX8_followFrom_57 : decode mX8_followFrom.2.1 57 = .ok (.iaload, 1) := by decide +kernel
theorem dX8_followFrom_58 : decode mX8_followFrom.2.1 58 = .ok (.iload_n 2, 1) := by decide +kernel
theorem dX8_followFrom_59 : decode mX8_followFrom.2.1 59 = .ok (.if_icmp .ne 32, 3) := by decide +kernel
theorem dX8_followFrom_62 : decode mX8_followFrom.2.1 62 = .ok (.aload_n 0, 1) := by decide +kernel
theorem dX8_followFrom_63 : decode mX8_followFrom.2.1 63 = .ok (.dup, 1) := by decide +kernel
theorem dX8_followFrom_64 : decode mX8_followFrom.2.1 64 = .ok (.getfield 68, 3) := by decide +kernel
theorem dX8_followFrom_67 : decode mX8_followFrom.2.1 67 = .ok (.iconst 1, 1) := by decide +kernel
theorem dX8_followFrom_68 : decode mX8_followFrom.2.1 68 = .ok (.iadd, 1) := by decide +kernel
theorem dX8_followFrom_69 : decode mX8_followFrom.2.1 69 = .ok (.putfield 68, 3) := by decide +kernel
theorem dX8_followFrom_72 : decode mX8_followFrom.2.1 72 = .ok (.aload_n 0, 1) := by decide +kernel
theorem dX8_followFrom_73 : decode mX8_followFrom.2.1 73 = .ok (.getfield 34, 3) := by decide +kernel
theorem dX8_followFrom_76 : decode mX8_followFrom.2.1 76 = .ok (.aload_n 0, 1) := by decide +kernel
theorem dX8_followFrom_77 : decode mX8_followFrom.2.1 77 = .ok (.getfield 19, 3) := by decide +kernel
theorem dX8_followFrom_80 : decode mX8_followFrom.2.1 80 = .ok (.iload 5, 2) := by decide +kernel
theorem dX8_followFrom_82 : decode mX8_followFrom.2.1 82 = .ok (.iaload, 1) := by decide +kernel
theorem dX8_followFrom_83 : decode mX8_followFrom.2.1 83 = .ok (.dup2, 1) := by decide +kernel
theorem dX8_followFrom_84 : decode mX8_followFrom.2.1 84 = .ok (.iaload, 1) := by decide +kernel
theorem dX8_followFrom_85 : decode mX8_followFrom.2.1 85 = .ok (.iconst 1, 1) := by decide +kernel
theorem dX8_followFrom_86 : decode mX8_followFrom.2.1 86 = .ok (.iadd, 1) := by decide +kernel
theorem dX8_followFrom_87 : decode mX8_followFrom.2.1 87 = .ok (.iastore, 1) := by decide +kernel
theorem dX8_followFrom_88 : decode mX8_followFrom.2.1 88 = .ok (.iinc 4 (-1), 3) := by decide +kernel
theorem dX8_followFrom_91 : decode mX8_followFrom.2.1 91 = .ok (.aload_n 0, 1) := by decide +kernel
theorem dX8_followFrom_92 : decode mX8_followFrom.2.1 92 = .ok (.getfield 22, 3) := by decide +kernel
theorem dX8_followFrom_95 : decode mX8_followFrom.2.1 95 = .ok (.iload 5, 2) := by decide +kernel
theorem dX8_followFrom_97 : decode mX8_followFrom.2.1 97 = .ok (.iaload, 1) := by decide +kernel
theorem dX8_followFrom_98 : decode mX8_followFrom.2.1 98 = .ok (.istore 5, 2) := by decide +kernel
theorem dX8_followFrom_100 : decode mX8_followFrom.2.1 100 = .ok (.iinc 6 1, 3) := by decide +kernel
theorem dX8_followFrom_103 : decode mX8_followFrom.2.1 103 = .ok (.goto (-94), 3) := by decide +kernel
theorem dX8_followFrom_106 : decode mX8_followFrom.2.1 106 = .ok (.iload 4, 2) := by decide +kernel
theorem dX8_followFrom_108 : decode mX8_followFrom.2.1 108 = .ok (.ireturn, 1) := by decide +kernel
theorem dX8_isThing_0 : decode mX8_isThing.2.1 0 = .ok (.iload_n 1, 1) := by decide +kernel
theorem dX8_isThing_1 : decode mX8_isThing.2.1 1 = .ok (.ifCond .lt 15, 3) := by decide +kernel
theorem dX8_isThing_4 : decode mX8_isThing.2.1 4 = .ok (.iload_n 1, 1) := by decide +kernel
theorem dX8_isThing_5 : decode mX8_isThing.2.1 5 = .ok (.aload_n 0, 1) := by decide +kernel
theorem dX8_isThing_6 : decode mX8_isThing.2.1 6 = .ok (.getfield 56, 3) := by decide +kernel
theorem dX8_isThing_9 : decode mX8_isThing.2.1 9 = .ok (.if_icmp .ge 7, 3) := by decide +kernel
theorem dX8_isThing_12 : decode mX8_isThing.2.1 12 = .ok (.iconst 1, 1) := by decide +kernel
theorem dX8_isThing_13 : decode mX8_isThing.2.1 13 = .ok (.goto 4, 3) := by decide +kernel
theorem dX8_isThing_16 : decode mX8_isThing.2.1 16 = .ok (.iconst 0, 1) := by decide +kernel
theorem dX8_isThing_17 : decode mX8_isThing.2.1 17 = .ok (.ireturn, 1) := by decide +kernel
theorem dX8_inName_0 : decode mX8_inName.2.1 0 = .ok (.iload_n 1, 1) := by decide +kernel
theorem dX8_inName_1 : decode mX8_inName.2.1 1 = .ok (.iconst 4, 1) := by decide +kernel
theorem dX8_inName_2 : decode mX8_inName.2.1 2 = .ok (.invokestatic 71, 3) := by decide +kernel
theorem dX8_inName_5 : decode mX8_inName.2.1 5 = .ok (.ifCond .ne 11, 3) := by decide +kernel
theorem dX8_inName_8 : decode mX8_inName.2.1 8 = .ok (.iload_n 2, 1) := by decide +kernel
theorem dX8_inName_9 : decode mX8_inName.2.1 9 = .ok (.iconst 4, 1) := by decide +kernel
theorem dX8_inName_10 : decode mX8_inName.2.1 10 = .ok (.invokestatic 71, 3) := by decide +kernel
theorem dX8_inName_13 : decode mX8_inName.2.1 13 = .ok (.ifCond .eq 7, 3) := by decide +kernel
theorem dX8_inName_16 : decode mX8_inName.2.1 16 = .ok (.iconst (-1), 1) := by decide +kernel
theorem dX8_inName_17 : decode mX8_inName.2.1 17 = .ok (.goto 13, 3) := by decide +kernel
theorem dX8_inName_20 : decode mX8_inName.2.1 20 = .ok (.aload_n 0, 1) := by decide +kernel
theorem dX8_inName_21 : decode mX8_inName.2.1 21 = .ok (.getfield 9, 3) := by decide +kernel
theorem dX8_inName_24 : decode mX8_inName.2.1 24 = .ok (.iload_n 1, 1) := by decide +kernel
theorem dX8_inName_25 : decode mX8_inName.2.1 25 = .ok (.iconst 4, 1) := by decide +kernel
theorem dX8_inName_26 : decode mX8_inName.2.1 26 = .ok (.imul, 1) := by decide +kernel
theorem dX8_inName_27 : decode mX8_inName.2.1 27 = .ok (.iload_n 2, 1) := by decide +kernel
theorem dX8_inName_28 : decode mX8_inName.2.1 28 = .ok (.iadd, 1) := by decide +kernel
theorem dX8_inName_29 : decode mX8_inName.2.1 29 = .ok (.iaload, 1) := by decide +kernel
theorem dX8_inName_30 : decode mX8_inName.2.1 30 = .ok (.ireturn, 1) := by decide +kernel
theorem dX8_setName_0 : decode mX8_setName.2.1 0 = .ok (.iload_n 1, 1) := by decide +kernel
theorem dX8_setName_1 : decode mX8_setName.2.1 1 = .ok (.iconst 4, 1) := by decide +kernel
theorem dX8_setName_2 : decode mX8_setName.2.1 2 = .ok (.invokestatic 71, 3) := by decide +kernel
theorem dX8_setName_5 : decode mX8_setName.2.1 5 = .ok (.ifCond .ne 22, 3) := by decide +kernel
theorem dX8_setName_8 : decode mX8_setName.2.1 8 = .ok (.iload_n 2, 1) := by decide +kernel
theorem dX8_setName_9 : decode mX8_setName.2.1 9 = .ok (.iconst 4, 1) := by decide +kernel
theorem dX8_setName_10 : decode mX8_setName.2.1 10 = .ok (.invokestatic 71, 3) := by decide +kernel
theorem dX8_setName_13 : decode mX8_setName.2.1 13 = .ok (.ifCond .ne 14, 3) := by decide +kernel
theorem dX8_setName_16 : decode mX8_setName.2.1 16 = .ok (.aload_n 0, 1) := by decide +kernel
theorem dX8_setName_17 : decode mX8_setName.2.1 17 = .ok (.getfield 9, 3) := by decide +kernel
theorem dX8_setName_20 : decode mX8_setName.2.1 20 = .ok (.iload_n 1, 1) := by decide +kernel
theorem dX8_setName_21 : decode mX8_setName.2.1 21 = .ok (.iconst 4, 1) := by decide +kernel
theorem dX8_setName_22 : decode mX8_setName.2.1 22 = .ok (.imul, 1) := by decide +kernel
theorem dX8_setName_23 : decode mX8_setName.2.1 23 = .ok (.iload_n 2, 1) := by decide +kernel
theorem dX8_setName_24 : decode mX8_setName.2.1 24 = .ok (.iadd, 1) := by decide +kernel
theorem dX8_setName_25 : decode mX8_setName.2.1 25 = .ok (.iload_n 3, 1) := by decide +kernel
theorem dX8_setName_26 : decode mX8_setName.2.1 26 = .ok (.iastore, 1) := by decide +kernel
theorem dX8_setName_27 : decode mX8_setName.2.1 27 = .ok (.return_, 1) := by decide +kernel
end
section
theorem dX9_init_0 : decode mX9_init.2.1 0 = .ok (.aload_n 0, 1) := by decide +kernel
theorem dX9_init_1 : decode mX9_init.2.1 1 = .ok (.invokespecial 3, 3) := by decide +kernel
theorem dX9_init_4 : decode mX9_init.2.1 4 = .ok (.aload_n 0, 1) := by decide +kernel
theorem dX9_init_5 : decode mX9_init.2.1 5 = .ok (.new 9, 3) := by decide +kernel
theorem dX9_init_8 : decode mX9_init.2.1 8 = .ok (.dup, 1) := by decide +kernel
theorem dX9_init_9 : decode mX9_init.2.1 9 = .ok (.invokespecial 11, 3) := by decide +kernel
theorem dX9_init_12 : decode mX9_init.2.1 12 = .ok (.putfield 12, 3) := by decide +kernel
theorem dX9_init_15 : decode mX9_init.2.1 15 = .ok (.aload_n 0, 1) := by decide +kernel
theorem dX9_init_16 : decode mX9_init.2.1 16 = .ok (.new 16, 3) := by decide +kernel
theorem dX9_init_19 : decode mX9_init.2.1 19 = .ok (.dup, 1) := by decide +kernel
theorem dX9_init_20 : decode mX9_init.2.1 20 = .ok (.invokespecial 18, 3) := by decide +kernel
theorem dX9_init_23 : decode mX9_init.2.1 23 = .ok (.putfield 19, 3) := by decide +kernel
theorem dX9_init_26 : decode mX9_init.2.1 26 = .ok (.aload_n 0, 1) := by decide +kernel
theorem dX9_init_27 : decode mX9_init.2.1 27 = .ok (.new 16, 3) := by decide +kernel
theorem dX9_init_30 : decode mX9_init.2.1 30 = .ok (.dup, 1) := by decide +kernel
theorem dX9_init_31 : decode mX9_init.2.1 31 = .ok (.invokespecial 18, 3) := by decide +kernel
theorem dX9_init_34 : decode mX9_init.2.1 34 = .ok (.putfield 23, 3) := by decide +kernel
theorem dX9_init_37 : decode mX9_init.2.1 37 = .ok (.aload_n 0, 1) := by decide +kernel
theorem dX9_init_38 : decode mX9_init.2.1 38 = .ok (.new 26, 3) := by decide +kernel
theorem dX9_init_41 : decode mX9_init.2.1 41 = .ok (.dup, 1) := by decide +kernel
theorem dX9_init_42 : decode mX9_init.2.1 42 = .ok (.aload_n 0, 1) := by decide +kernel
theorem dX9_init_43 : decode mX9_init.2.1 43 = .ok (.getfield 12, 3) := by decide +kernel
theorem dX9_init_46 : decode mX9_init.2.1 46 = .ok (.aload_n 0, 1) := by decide +kernel
theorem dX9_init_47 : decode mX9_init.2.1 47 = .ok (.getfield 23, 3) := by decide +kernel
theorem dX9_init_50 : decode mX9_init.2.1 50 = .ok (.invokespecial 28, 3) := by decide +kernel
theorem dX9_init_53 : decode mX9_init.2.1 53 = .ok (.putfield 31, 3) := by decide +kernel
theorem dX9_init_56 : decode mX9_init.2.1 56 = .ok (.aload_n 0, 1) := by decide +kernel
theorem dX9_init_57 : decode mX9_init.2.1 57 = .ok (.new 35, 3) := by decide +kernel
theorem dX9_init_60 : decode mX9_init.2.1 60 = .ok (.dup, 1) := by decide +kernel
theorem dX9_init_61 : decode mX9_init.2.1 61 = .ok (.invokespecial 37, 3) := by decide +kernel
theorem dX9_init_64 : decode mX9_init.2.1 64 = .ok (.putfield 38, 3) := by decide +kernel
theorem dX9_init_67 : decode mX9_init.2.1 67 = .ok (.aload_n 0, 1) := by decide +kernel
theorem dX9_init_68 : decode mX9_init.2.1 68 = .ok (.new 42, 3) := by decide +kernel
theorem dX9_init_71 : decode mX9_init.2.1 71 = .ok (.dup, 1) := by decide +kernel
theorem dX9_init_72 : decode mX9_init.2.1 72 = .ok (.invokespecial 44, 3) := by decide +kernel
theorem dX9_init_75 : decode mX9_init.2.1 75 = .ok (.putfield 45, 3) := by decide +kernel
theorem dX9_init_78 : decode mX9_init.2.1 78 = .ok (.aload_n 0, 1) := by decide +kernel
theorem dX9_init_79 : decode mX9_init.2.1 79 = .ok (.new 49, 3) := by decide +kernel
theorem dX9_init_82 : decode mX9_init.2.1 82 = .ok (.dup, 1) := by decide +kernel
theorem dX9_init_83 : decode mX9_init.2.1 83 = .ok (.aload_n 0, 1) := by decide +kernel
theorem dX9_init_84 : decode mX9_init.2.1 84 = .ok (.getfield 19, 3) := by decide +kernel
theorem dX9_init_87 : decode mX9_init.2.1 87 = .ok (.aload_n 0, 1) := by decide +kernel
theorem dX9_init_88 : decode mX9_init.2.1 88 = .ok (.getfield 45, 3) := by decide +kernel
theorem dX9_init_91 : decode mX9_init.2.1 91 = .ok (.invokespecial 51, 3) := by decide +kernel
theorem dX9_init_94 : decode mX9_init.2.1 94 = .ok (.putfield 54, 3) := by decide +kernel
theorem dX9_init_97 : decode mX9_init.2.1 97 = .ok (.aload_n 0, 1) := by decide +kernel
theorem dX9_init_98 : decode mX9_init.2.1 98 = .ok (.new 58, 3) := by decide +kernel
theorem dX9_init_101 : decode mX9_init.2.1 101 = .ok (.dup, 1) := by decide +kernel
theorem dX9_init_102 : decode mX9_init.2.1 102 = .ok (.aload_n 0, 1) := by decide +kernel
theorem dX9_init_103 : decode mX9_init.2.1 103 = .ok (.getfield 19, 3) := by decide +kernel
theorem dX9_init_106 : decode mX9_init.2.1 106 = .ok (.aload_n 0, 1) := by decide +kernel
theorem dX9_init_107 : decode mX9_init.2.1 107 = .ok (.getfield 45, 3) := by decide +kernel
theorem dX9_init_110 : decode mX9_init.2.1 110 = .ok (.aload_n 0, 1) := by decide +kernel
theorem dX9_init_111 : decode mX9_init.2.1 111 = .ok (.getfield 54, 3) := by decide +kernel
theorem dX9_init_114 : decode mX9_init.2.1 114 = .ok (.invokespecial 60, 3) := by decide +kernel
theorem dX9_init_117 : decode mX9_init.2.1 117 = .ok (.putfield 63, 3) := by decide +kernel
theorem dX9_init_120 : decode mX9_init.2.1 120 = .ok (.aload_n 0, 1) := by decide +kernel
theorem dX9_init_121 : decode mX9_init.2.1 121 = .ok (.new 67, 3) := by decide +kernel
theorem dX9_init_124 : decode mX9_init.2.1 124 = .ok (.dup, 1) := by decide +kernel
theorem dX9_init_125 : decode mX9_init.2.1 125 = .ok (.aload_n 0, 1) := by decide +kernel
theorem dX9_init_126 : decode mX9_init.2.1 126 = .ok (.getfield 19, 3) := by decide +kernel
theorem dX9_init_129 : decode mX9_init.2.1 129 = .ok (.aload_n 0, 1) := by decide +kernel
theorem dX9_init_130 : decode mX9_init.2.1 130 = .ok (.getfield 45, 3) := by decide +kernel
theorem dX9_init_133 : decode mX9_init.2.1 133 = .ok (.aload_n 0, 1) := by decide +kernel
theorem dX9_init_134 : decode mX9_init.2.1 134 = .ok (.getfield 63, 3) := by decide +kernel
theorem dX9_init_137 : decode mX9_init.2.1 137 = .ok (.invokespecial 69, 3) := by decide +kernel
theorem dX9_init_140 : decode mX9_init.2.1 140 = .ok (.putfield 72, 3) := by decide +kernel
theorem dX9_init_143 : decode mX9_init.2.1 143 = .ok (.return_, 1) := by decide +kernel
theorem dX9_type_0 : decode mX9_type.2.1 0 = .ok (.iload_n 1, 1) := by decide +kernel
theorem dX9_type_1 : decode mX9_type.2.1 1 = .ok (.sipush 128, 3) := by decide +kernel
theorem dX9_type_4 : decode mX9_type.2.1 4 = .ok (.invokestatic 76, 3) := by decide +kernel
theorem dX9_type_7 : decode mX9_type.2.1 7 = .ok (.ifCond .eq 8, 3) := by decide +kernel
theorem dX9_type_10 : decode mX9_type.2.1 10 = .ok (.aload_n 0, 1) := by decide +kernel
theorem dX9_type_11 : decode mX9_type.2.1 11 = .ok (.invokevirtual 80, 3) := by decide +kernel
theorem dX9_type_14 : decode mX9_type.2.1 14 = .ok (.ireturn, 1) := by decide +kernel
theorem dX9_type_15 : decode mX9_type.2.1 15 = .ok (.aload_n 0, 1) := by decide +kernel
theorem dX9_type_16 : decode mX9_type.2.1 16 = .ok (.getfield 12, 3) := by decide +kernel
theorem dX9_type_19 : decode mX9_type.2.1 19 = .ok (.invokevirtual 84, 3) := by decide +kernel
theorem dX9_type_22 : decode mX9_type.2.1 22 = .ok (.ifCond .eq 8, 3) := by decide +kernel
theorem dX9_type_25 : decode mX9_type.2.1 25 = .ok (.aload_n 0, 1) := by decide +kernel
theorem dX9_type_26 : decode mX9_type.2.1 26 = .ok (.invokevirtual 88, 3) := by decide +kernel
theorem dX9_type_29 : decode mX9_type.2.1 29 = .ok (.ireturn, 1) := by decide +kernel
theorem dX9_type_30 : decode mX9_type.2.1 30 = .ok (.aload_n 0, 1) := by decide +kernel
theorem dX9_type_31 : decode mX9_type.2.1 31 = .ok (.getfield 12, 3) := by decide +kernel
theorem dX9_type_34 : decode mX9_type.2.1 34 = .ok (.iload_n 1, 1) := by decide +kernel
theorem dX9_type_35 : decode mX9_type.2.1 35 = .ok (.invokevirtual 91, 3) := by decide +kernel
theorem dX9_type_38 : decode mX9_type.2.1 38 = .ok (.aload_n 0, 1) := by decide +kernel
theorem dX9_type_39 : decode mX9_type.2.1 39 = .ok (.getfield 12, 3) := by decide +kernel
theorem dX9_type_42 : decode mX9_type.2.1 42 = .ok (.invokevirtual 95, 3) := by decide +kernel
theorem dX9_type_45 : decode mX9_type.2.1 45 = .ok (.ireturn, 1) := by decide +kernel
theorem dX9_clear_0 : decode mX9_clear.2.1 0 = .ok (.aload_n 0, 1) := by decide +kernel
theorem dX9_clear_1 : decode mX9_clear.2.1 1 = .ok (.getfield 12, 3) := by decide +kernel
theorem dX9_clear_4 : decode mX9_clear.2.1 4 = .ok (.invokevirtual 95, 3) := by decide +kernel
theorem dX9_clear_7 : decode mX9_clear.2.1 7 = .ok (.istore_n 1, 1) := by decide +kernel
theorem dX9_clear_8 : decode mX9_clear.2.1 8 = .ok (.aload_n 0, 1) := by decide +kernel
theorem dX9_clear_9 : decode mX9_clear.2.1 9 = .ok (.getfield 12, 3) := by decide +kernel
theorem dX9_clear_12 : decode mX9_clear.2.1 12 = .ok (.invokevirtual 98, 3) := by decide +kernel
theorem dX9_clear_15 : decode mX9_clear.2.1 15 = .ok (.iload_n 1, 1) := by decide +kernel
theorem dX9_clear_16 : decode mX9_clear.2.1 16 = .ok (.ireturn, 1) := by decide +kernel
theorem dX9_reads_0 : decode mX9_reads.2.1 0 = .ok (.aload_n 0, 1) := by decide +kernel
theorem dX9_reads_1 : decode mX9_reads.2.1 1 = .ok (.getfield 31, 3) := by decide +kernel
theorem dX9_reads_4 : decode mX9_reads.2.1 4 = .ok (.invokevirtual 101, 3) := by decide +kernel
theorem dX9_reads_7 : decode mX9_reads.2.1 7 = .ok (.istore_n 1, 1) := by decide +kernel
theorem dX9_reads_8 : decode mX9_reads.2.1 8 = .ok (.iload_n 1, 1) := by decide +kernel
theorem dX9_reads_9 : decode mX9_reads.2.1 9 = .ok (.iconst (-1), 1) := by decide +kernel
theorem dX9_reads_10 : decode mX9_reads.2.1 10 = .ok (.if_icmp .eq 8, 3) := by decide +kernel
theorem dX9_reads_13 : decode mX9_reads.2.1 13 = .ok (.bipush (-10), 2) := by decide +kernel
theorem dX9_reads_15 : decode mX9_reads.2.1 15 = .ok (.iload_n 1, 1) := by decide +kernel
theorem dX9_reads_16 : decode mX9_reads.2.1 16 = .ok (.isub, 1) := by decide +kernel
theorem dX9_reads_17 : decode mX9_reads.2.1 17 = .ok (.ireturn, 1) := by decide +kernel
theorem dX9_reads_18 : decode mX9_reads.2.1 18 = .ok (.aload_n 0, 1) := by decide +kernel
theorem dX9_reads_19 : decode mX9_reads.2.1 19 = .ok (.invokevirtual 104, 3) := by decide +kernel
theorem dX9_reads_22 : decode mX9_reads.2.1 22 = .ok (.aload_n 0, 1) := by decide +kernel
theorem dX9_reads_23 : decode mX9_reads.2.1 23 = .ok (.getfield 19, 3) := by decide +kernel
theorem dX9_reads_26 : decode mX9_reads.2.1 26 = .ok (.aload_n 0, 1) := by decide +kernel
theorem dX9_reads_27 : decode mX9_reads.2.1 27 = .ok (.getfield 23, 3) := by decide +kernel
theorem dX9_reads_30 : decode mX9_reads.2.1 30 = .ok (.invokevirtual 107, 3) := by decide +kernel
theorem dX9_reads_33 : decode mX9_reads.2.1 33 = .ok (.aload_n 0, 1) := by decide +kernel
theorem dX9_reads_34 : decode mX9_reads.2.1 34 = .ok (.getfield 19, 3) := by decide +kernel
theorem dX9_reads_37 : decode mX9_reads.2.1 37 = .ok (.invokevirtual 111, 3) := by decide +kernel
theorem dX9_reads_40 : decode mX9_reads.2.1 40 = .ok (.ireturn, 1) := by decide +kernel
theorem dX9_drops_0 : decode mX9_drops.2.1 0 = .ok (.aload_n 0, 1) := by decide +kernel
theorem dX9_drops_1 : decode mX9_drops.2.1 1 = .ok (.getfield 19, 3) := by decide +kernel
theorem dX9_drops_4 : decode mX9_drops.2.1 4 = .ok (.iload_n 1, 1) := by decide +kernel
theorem dX9_drops_5 : decode mX9_drops.2.1 5 = .ok (.iload_n 2, 1) := by decide +kernel
theorem dX9_drops_6 : decode mX9_drops.2.1 6 = .ok (.invokevirtual 114, 3) := by decide +kernel
theorem dX9_drops_9 : decode mX9_drops.2.1 9 = .ok (.ifCond .ne 8, 3) := by decide +kernel
theorem dX9_drops_12 : decode mX9_drops.2.1 12 = .ok (.aload_n 0, 1) := by decide +kernel
theorem dX9_drops_13 : decode mX9_drops.2.1 13 = .ok (.invokevirtual 80, 3) := by decide +kernel
theorem dX9_drops_16 : decode mX9_drops.2.1 16 = .ok (.ireturn, 1) := by decide +kernel
theorem dX9_drops_17 : decode mX9_drops.2.1 17 = .ok (.aload_n 0, 1) := by decide +kernel
theorem dX9_drops_18 : decode mX9_drops.2.1 18 = .ok (.invokevirtual 104, 3) := by decide +kernel
theorem dX9_drops_21 : decode mX9_drops.2.1 21 = .ok (.aload_n 0, 1) := by decide +kernel
theorem dX9_drops_22 : decode mX9_drops.2.1 22 = .ok (.getfield 19, 3) := by decide +kernel
theorem dX9_drops_25 : decode mX9_drops.2.1 25 = .ok (.iload_n 1, 1) := by decide +kernel
theorem dX9_drops_26 : decode mX9_drops.2.1 26 = .ok (.iload_n 2, 1) := by decide +kernel
theorem dX9_drops_27 : decode mX9_drops.2.1 27 = .ok (.invokevirtual 117, 3) := by decide +kernel
theorem dX9_drops_30 : decode mX9_drops.2.1 30 = .ok (.aload_n 0, 1) := by decide +kernel
theorem dX9_drops_31 : decode mX9_drops.2.1 31 = .ok (.getfield 19, 3) := by decide +kernel
theorem dX9_drops_34 : decode mX9_drops.2.1 34 = .ok (.iload_n 1, 1) := by decide +kernel
theorem dX9_drops_35 : decode mX9_drops.2.1 35 = .ok (.invokevirtual 121, 3) := by decide +kernel
theorem dX9_drops_38 : decode mX9_drops.2.1 38 = .ok (.ireturn, 1) := by decide +kernel
theorem dX9_swaps_0 : decode mX9_swaps.2.1 0 = .ok (.aload_n 0, 1) := by decide +kernel
theorem dX9_swaps_1 : decode mX9_swaps.2.1 1 = .ok (.getfield 19, 3) := by decide +kernel
theorem dX9_swaps_4 : decode mX9_swaps.2.1 4 = .ok (.iload_n 1, 1) := by decide +kernel
theorem dX9_swaps_5 : decode mX9_swaps.2.1 5 = .ok (.iload_n 2, 1) := by decide +kernel
theorem dX9_swaps_6 : decode mX9_swaps.2.1 6 = .ok (.invokevirtual 114, 3) := by decide +kernel
theorem dX9_swaps_9 : decode mX9_swaps.2.1 9 = .ok (.ifCond .eq 17, 3) := by decide +kernel
theorem dX9_swaps_12 : decode mX9_swaps.2.1 12 = .ok (.aload_n 0, 1) := by decide +kernel
theorem dX9_swaps_13 : decode mX9_swaps.2.1 13 = .ok (.getfield 19, 3) := by decide +kernel
theorem dX9_swaps_16 : decode mX9_swaps.2.1 16 = .ok (.iload_n 1, 1) := by decide +kernel
theorem dX9_swaps_17 : decode mX9_swaps.2.1 17 = .ok (.iload_n 2, 1) := by decide +kernel
theorem dX9_swaps_18 : decode mX9_swaps.2.1 18 = .ok (.iconst 1, 1) := by decide +kernel
theorem dX9_swaps_19 : decode mX9_swaps.2.1 19 = .ok (.iadd, 1) := by decide +kernel
theorem dX9_swaps_20 : decode mX9_swaps.2.1 20 = .ok (.invokevirtual 114, 3) := by decide +kernel
theorem dX9_swaps_23 : decode mX9_swaps.2.1 23 = .ok (.ifCond .ne 8, 3) := by decide +kernel
theorem dX9_swaps_26 : decode mX9_swaps.2.1 26 = .ok (.aload_n 0, 1) := by decide +kernel
theorem dX9_swaps_27 : decode mX9_swaps.2.1 27 = .ok (.invokevirtual 80, 3) := by decide +kernel
theorem dX9_swaps_30 : decode mX9_swaps.2.1 30 = .ok (.ireturn, 1) := by decide +kernel
theorem dX9_swaps_31 : decode mX9_swaps.2.1 31 = .ok (.aload_n 0, 1) := by decide +kernel
theorem dX9_swaps_32 : decode mX9_swaps.2.1 32 = .ok (.invokevirtual 104, 3) := by decide +kernel
theorem dX9_swaps_35 : decode mX9_swaps.2.1 35 = .ok (.aload_n 0, 1) := by decide +kernel
theorem dX9_swaps_36 : decode mX9_swaps.2.1 36 = .ok (.getfield 19, 3) := by decide +kernel
theorem dX9_swaps_39 : decode mX9_swaps.2.1 39 = .ok (.iload_n 1, 1) := by decide +kernel
theorem dX9_swaps_40 : decode mX9_swaps.2.1 40 = .ok (.iload_n 2, 1) := by decide +kernel
theorem dX9_swaps_41 : decode mX9_swaps.2.1 41 = .ok (.invokevirtual 125, 3) := by decide +kernel
theorem dX9_swaps_44 : decode mX9_swaps.2.1 44 = .ok (.iconst 1, 1) := by decide +kernel
theorem dX9_swaps_45 : decode mX9_swaps.2.1 45 = .ok (.ireturn, 1) := by decide +kernel
theorem dX9_of_0 : decode mX9_of.2.1 0 = .ok (.aload_n 0, 1) := by decide +kernel
theorem dX9_of_1 : decode mX9_of.2.1 1 = .ok (.getfield 19, 3) := by decide +kernel
theorem dX9_of_4 : decode mX9_of.2.1 4 = .ok (.iload_n 1, 1) := by decide +kernel
theorem dX9_of_5 : decode mX9_of.2.1 5 = .ok (.invokevirtual 128, 3) := by decide +kernel
theorem dX9_of_8 : decode mX9_of.2.1 8 = .ok (.ifCond .eq 11, 3) := by decide +kernel
theorem dX9_of_11 : decode mX9_of.2.1 11 = .ok (.iload_n 2, 1) := by decide +kernel
theorem dX9_of_12 : decode mX9_of.2.1 12 = .ok (.iconst 5, 1) := by decide +kernel
theorem dX9_of_13 : decode mX9_of.2.1 13 = .ok (.invokestatic 76, 3) := by decide +kernel
theorem dX9_of_16 : decode mX9_of.2.1 16 = .ok (.ifCond .eq 8, 3) := by decide +kernel
theorem dX9_of_19 : decode mX9_of.2.1 19 = .ok (.aload_n 0, 1) := by decide +kernel
theorem dX9_of_20 : decode mX9_of.2.1 20 = .ok (.invokevirtual 80, 3) := by decide +kernel
theorem dX9_of_23 : decode mX9_of.2.1 23 = .ok (.ireturn, 1) := by decide +kernel
theorem dX9_of_24 : decode mX9_of.2.1 24 = .ok (.aload_n 0, 1) := by decide +kernel
theorem dX9_of_25 : decode mX9_of.2.1 25 = .ok (.invokevirtual 132, 3) := by decide +kernel
theorem dX9_of_28 : decode mX9_of.2.1 28 = .ok (.aload_n 0, 1) := by decide +kernel
theorem dX9_of_29 : decode mX9_of.2.1 29 = .ok (.iload_n 1, 1) := by decide +kernel
theorem dX9_of_30 : decode mX9_of.2.1 30 = .ok (.iload_n 2, 1) := by decide +kernel
theorem dX9_of_31 : decode mX9_of.2.1 31 = .ok (.invokevirtual 135, 3) := by decide +kernel
theorem dX9_of_34 : decode mX9_of.2.1 34 = .ok (.ireturn, 1) := by decide +kernel
theorem dX9_line_0 : decode mX9_line.2.1 0 = .ok (.aload_n 0, 1) := by decide +kernel
theorem dX9_line_1 : decode mX9_line.2.1 1 = .ok (.getfield 19, 3) := by decide +kernel
theorem dX9_line_4 : decode mX9_line.2.1 4 = .ok (.iload_n 1, 1) := by decide +kernel
theorem dX9_line_5 : decode mX9_line.2.1 5 = .ok (.iload_n 2, 1) := by decide +kernel
theorem dX9_line_6 : decode mX9_line.2.1 6 = .ok (.invokevirtual 114, 3) := by decide +kernel
theorem dX9_line_9 : decode mX9_line.2.1 9 = .ok (.ifCond .eq 11, 3) := by decide +kernel
theorem dX9_line_12 : decode mX9_line.2.1 12 = .ok (.iload_n 3, 1) := by decide +kernel
theorem dX9_line_13 : decode mX9_line.2.1 13 = .ok (.iconst 5, 1) := by decide +kernel
theorem dX9_line_14 : decode mX9_line.2.1 14 = .ok (.invokestatic 76, 3) := by decide +kernel
theorem dX9_line_17 : decode mX9_line.2.1 17 = .ok (.ifCond .eq 8, 3) := by decide +kernel
theorem dX9_line_20 : decode mX9_line.2.1 20 = .ok (.aload_n 0, 1) := by decide +kernel
theorem dX9_line_21 : decode mX9_line.2.1 21 = .ok (.invokevirtual 80, 3) := by decide +kernel
theorem dX9_line_24 : decode mX9_line.2.1 24 = .ok (.ireturn, 1) := by decide +kernel
theorem dX9_line_25 : decode mX9_line.2.1 25 = .ok (.aload_n 0, 1) := by decide +kernel
theorem dX9_line_26 : decode mX9_line.2.1 26 = .ok (.invokevirtual 132, 3) := by decide +kernel
theorem dX9_line_29 : decode mX9_line.2.1 29 = .ok (.aload_n 0, 1) := by decide +kernel
theorem dX9_line_30 : decode mX9_line.2.1 30 = .ok (.iload_n 1, 1) := by decide +kernel
theorem dX9_line_31 : decode mX9_line.2.1 31 = .ok (.iload_n 2, 1) := by decide +kernel
theorem dX9_line_32 : decode mX9_line.2.1 32 = .ok (.iload_n 3, 1) := by decide +kernel
theorem dX9_line_33 : decode mX9_line.2.1 33 = .ok (.invokevirtual 139, 3) := by decide +kernel
theorem dX9_line_36 : decode mX9_line.2.1 36 = .ok (.ireturn, 1) := by decide +kernel
theorem dX9_site_0 : decode mX9_site.2.1 0 = .ok (.aload_n 0, 1) := by decide +kernel
theorem dX9_site_1 : decode mX9_site.2.1 1 = .ok (.invokevirtual 132, 3) := by decide +kernel
theorem dX9_site_4 : decode mX9_site.2.1 4 = .ok (.iload_n 1, 1) := by decide +kernel
theorem dX9_site_5 : decode mX9_site.2.1 5 = .ok (.aload_n 0, 1) := by decide +kernel
theorem dX9_site_6 : decode mX9_site.2.1 6 = .ok (.getfield 45, 3) := by decide +kernel
theorem dX9_site_9 : decode mX9_site.2.1 9 = .ok (.invokevirtual 143, 3) := by decide +kernel
theorem dX9_site_12 : decode mX9_site.2.1 12 = .ok (.invokestatic 76, 3) := by decide +kernel
theorem dX9_site_15 : decode mX9_site.2.1 15 = .ok (.ifCond .ne 11, 3) := by decide +kernel
theorem dX9_site_18 : decode mX9_site.2.1 18 = .ok (.iload_n 2, 1) := by decide +kernel
theorem dX9_site_19 : decode mX9_site.2.1 19 = .ok (.iconst 4, 1) := by decide +kernel
theorem dX9_site_20 : decode mX9_site.2.1 20 = .ok (.invokestatic 76, 3) := by decide +kernel
theorem dX9_site_23 : decode mX9_site.2.1 23 = .ok (.ifCond .eq 8, 3) := by decide +kernel
theorem dX9_site_26 : decode mX9_site.2.1 26 = .ok (.aload_n 0, 1) := by decide +kernel
theorem dX9_site_27 : decode mX9_site.2.1 27 = .ok (.invokevirtual 80, 3) := by decide +kernel
theorem dX9_site_30 : decode mX9_site.2.1 30 = .ok (.ireturn, 1) := by decide +kernel
theorem dX9_site_31 : decode mX9_site.2.1 31 = .ok (.aload_n 0, 1) := by decide +kernel
theorem dX9_site_32 : decode mX9_site.2.1 32 = .ok (.iload_n 1, 1) := by decide +kernel
theorem dX9_site_33 : decode mX9_site.2.1 33 = .ok (.iload_n 2, 1) := by decide +kernel
theorem dX9_site_34 : decode mX9_site.2.1 34 = .ok (.invokevirtual 144, 3) := by decide +kernel
theorem dX9_site_37 : decode mX9_site.2.1 37 = .ok (.ireturn, 1) := by decide +kernel
theorem dX9_may_0 : decode mX9_may.2.1 0 = .ok (.aload_n 0, 1) := by decide +kernel
theorem dX9_may_1 : decode mX9_may.2.1 1 = .ok (.getfield 19, 3) := by decide +kernel
theorem dX9_may_4 : decode mX9_may.2.1 4 = .ok (.iload_n 1, 1) := by decide +kernel
theorem dX9_may_5 : decode mX9_may.2.1 5 = .ok (.invokevirtual 128, 3) := by decide +kernel
theorem dX9_may_8 : decode mX9_may.2.1 8 = .ok (.ifCond .eq 11, 3) := by decide +kernel
theorem dX9_may_11 : decode mX9_may.2.1 11 = .ok (.iload_n 2, 1) := by decide +kernel
theorem dX9_may_12 : decode mX9_may.2.1 12 = .ok (.iconst 4, 1) := by decide +kernel
theorem dX9_may_13 : decode mX9_may.2.1 13 = .ok (.invokestatic 76, 3) := by decide +kernel
theorem dX9_may_16 : decode mX9_may.2.1 16 = .ok (.ifCond .eq 8, 3) := by decide +kernel
theorem dX9_may_19 : decode mX9_may.2.1 19 = .ok (.aload_n 0, 1) := by decide +kernel
theorem dX9_may_20 : decode mX9_may.2.1 20 = .ok (.invokevirtual 80, 3) := by decide +kernel
theorem dX9_may_23 : decode mX9_may.2.1 23 = .ok (.ireturn, 1) := by decide +kernel
theorem dX9_may_24 : decode mX9_may.2.1 24 = .ok (.aload_n 0, 1) := by decide +kernel
theorem dX9_may_25 : decode mX9_may.2.1 25 = .ok (.invokevirtual 132, 3) := by decide +kernel
theorem dX9_may_28 : decode mX9_may.2.1 28 = .ok (.aload_n 0, 1) := by decide +kernel
theorem dX9_may_29 : decode mX9_may.2.1 29 = .ok (.getfield 54, 3) := by decide +kernel
theorem dX9_may_32 : decode mX9_may.2.1 32 = .ok (.iload_n 1, 1) := by decide +kernel
theorem dX9_may_33 : decode mX9_may.2.1 33 = .ok (.iload_n 2, 1) := by decide +kernel
theorem dX9_may_34 : decode mX9_may.2.1 34 = .ok (.invokevirtual 147, 3) := by decide +kernel
theorem dX9_may_37 : decode mX9_may.2.1 37 = .ok (.ireturn, 1) := by decide +kernel
theorem dX9_open_0 : decode mX9_open.2.1 0 = .ok (.aload_n 0, 1) := by decide +kernel
theorem dX9_open_1 : decode mX9_open.2.1 1 = .ok (.invokevirtual 132, 3) := by decide +kernel
theorem dX9_open_4 : decode mX9_open.2.1 4 = .ok (.aload_n 0, 1) := by decide +kernel
theorem dX9_open_5 : decode mX9_open.2.1 5 = .ok (.getfield 54, 3) := by decide +kernel
theorem dX9_open_8 : decode mX9_open.2.1 8 = .ok (.invokevirtual 150, 3) := by decide +kernel
theorem dX9_open_11 : decode mX9_open.2.1 11 = .ok (.ireturn, 1) := by decide +kernel
theorem dX9_reached_0 : decode mX9_reached.2.1 0 = .ok (.aload_n 0, 1) := by decide +kernel
theorem dX9_reached_1 : decode mX9_reached.2.1 1 = .ok (.getfield 19, 3) := by decide +kernel
theorem dX9_reached_4 : decode mX9_reached.2.1 4 = .ok (.iload_n 1, 1) := by decide +kernel
theorem dX9_reached_5 : decode mX9_reached.2.1 5 = .ok (.invokevirtual 128, 3) := by decide +kernel
theorem dX9_reached_8 : decode mX9_reached.2.1 8 = .ok (.ifCond .eq 11, 3) := by decide +kernel
theorem dX9_reached_11 : decode mX9_reached.2.1 11 = .ok (.iload_n 2, 1) := by decide +kernel
theorem dX9_reached_12 : decode mX9_reached.2.1 12 = .ok (.iconst 4, 1) := by decide +kernel
theorem dX9_reached_13 : decode mX9_reached.2.1 13 = .ok (.invokestatic 76, 3) := by decide +kernel
theorem dX9_reached_16 : decode mX9_reached.2.1 16 = .ok (.ifCond .eq 8, 3) := by decide +kernel
theorem dX9_reached_19 : decode mX9_reached.2.1 19 = .ok (.aload_n 0, 1) := by decide +kernel
theorem dX9_reached_20 : decode mX9_reached.2.1 20 = .ok (.invokevirtual 80, 3) := by decide +kernel
theorem dX9_reached_23 : decode mX9_reached.2.1 23 = .ok (.ireturn, 1) := by decide +kernel
theorem dX9_reached_24 : decode mX9_reached.2.1 24 = .ok (.aload_n 0, 1) := by decide +kernel
theorem dX9_reached_25 : decode mX9_reached.2.1 25 = .ok (.invokevirtual 132, 3) := by decide +kernel
theorem dX9_reached_28 : decode mX9_reached.2.1 28 = .ok (.aload_n 0, 1) := by decide +kernel
theorem dX9_reached_29 : decode mX9_reached.2.1 29 = .ok (.getfield 54, 3) := by decide +kernel
theorem dX9_reached_32 : decode mX9_reached.2.1 32 = .ok (.aload_n 0, 1) := by decide +kernel
theorem dX9_reached_33 : decode mX9_reached.2.1 33 = .ok (.getfield 54, 3) := by decide +kernel
theorem dX9_reached_36 : decode mX9_reached.2.1 36 = .ok (.iload_n 1, 1) := by decide +kernel
theorem dX9_reached_37 : decode mX9_reached.2.1 37 = .ok (.iload_n 2, 1) := by decide +kernel
theorem dX9_reached_38 : decode mX9_reached.2.1 38 = .ok (.invokevirtual 147, 3) := by decide +kernel
theorem dX9_reached_41 : decode mX9_reached.2.1 41 = .ok (.invokevirtual 153, 3) := by decide +kernel
theorem dX9_reached_44 : decode mX9_reached.2.1 44 = .ok (.ireturn, 1) := by decide +kernel
theorem dX9_fates_0 : decode mX9_fates.2.1 0 = .ok (.iload_n 1, 1) := by decide +kernel
theorem dX9_fates_1 : decode mX9_fates.2.1 1 = .ok (.iconst 3, 1) := by decide +kernel
theorem dX9_fates_2 : decode mX9_fates.2.1 2 = .ok (.invokestatic 76, 3) := by decide +kernel
theorem dX9_fates_5 : decode mX9_fates.2.1 5 = .ok (.ifCond .eq 8, 3) := by decide +kernel
theorem dX9_fates_8 : decode mX9_fates.2.1 8 = .ok (.aload_n 0, 1) := by decide +kernel
theorem dX9_fates_9 : decode mX9_fates.2.1 9 = .ok (.invokevirtual 80, 3) := by decide +kernel
theorem dX9_fates_12 : decode mX9_fates.2.1 12 = .ok (.ireturn, 1) := by decide +kernel
theorem dX9_fates_13 : decode mX9_fates.2.1 13 = .ok (.aload_n 0, 1) := by decide +kernel
theorem dX9_fates_14 : decode mX9_fates.2.1 14 = .ok (.invokevirtual 132, 3) := by decide +kernel
theorem dX9_fates_17 : decode mX9_fates.2.1 17 = .ok (.aload_n 0, 1) := by decide +kernel
theorem dX9_fates_18 : decode mX9_fates.2.1 18 = .ok (.getfield 63, 3) := by decide +kernel
theorem dX9_fates_21 : decode mX9_fates.2.1 21 = .ok (.iload_n 1, 1) := by decide +kernel
theorem dX9_fates_22 : decode mX9_fates.2.1 22 = .ok (.invokevirtual 156, 3) := by decide +kernel
theorem dX9_fates_25 : decode mX9_fates.2.1 25 = .ok (.ireturn, 1) := by decide +kernel
theorem dX9_run_0 : decode mX9_run.2.1 0 = .ok (.iload_n 1, 1) := by decide +kernel
theorem dX9_run_1 : decode mX9_run.2.1 1 = .ok (.bipush 6, 2) := by decide +kernel
theorem dX9_run_3 : decode mX9_run.2.1 3 = .ok (.invokestatic 76, 3) := by decide +kernel
theorem dX9_run_6 : decode mX9_run.2.1 6 = .ok (.ifCond .eq 8, 3) := by decide +kernel
theorem dX9_run_9 : decode mX9_run.2.1 9 = .ok (.aload_n 0, 1) := by decide +kernel
theorem dX9_run_10 : decode mX9_run.2.1 10 = .ok (.invokevirtual 80, 3) := by decide +kernel
theorem dX9_run_13 : decode mX9_run.2.1 13 = .ok (.ireturn, 1) := by decide +kernel
theorem dX9_run_14 : decode mX9_run.2.1 14 = .ok (.aload_n 0, 1) := by decide +kernel
theorem dX9_run_15 : decode mX9_run.2.1 15 = .ok (.invokevirtual 159, 3) := by decide +kernel
theorem dX9_run_18 : decode mX9_run.2.1 18 = .ok (.aload_n 0, 1) := by decide +kernel
theorem dX9_run_19 : decode mX9_run.2.1 19 = .ok (.iload_n 1, 1) := by decide +kernel
theorem dX9_run_20 : decode mX9_run.2.1 20 = .ok (.invokevirtual 162, 3) := by decide +kernel
theorem dX9_run_23 : decode mX9_run.2.1 23 = .ok (.ireturn, 1) := by decide +kernel
theorem dX9_ran_0 : decode mX9_ran.2.1 0 = .ok (.aload_n 0, 1) := by decide +kernel
theorem dX9_ran_1 : decode mX9_ran.2.1 1 = .ok (.invokevirtual 132, 3) := by decide +kernel
theorem dX9_ran_4 : decode mX9_ran.2.1 4 = .ok (.iload_n 1, 1) := by decide +kernel
theorem dX9_ran_5 : decode mX9_ran.2.1 5 = .ok (.aload_n 0, 1) := by decide +kernel
theorem dX9_ran_6 : decode mX9_ran.2.1 6 = .ok (.getfield 45, 3) := by decide +kernel
theorem dX9_ran_9 : decode mX9_ran.2.1 9 = .ok (.invokevirtual 143, 3) := by decide +kernel
theorem dX9_ran_12 : decode mX9_ran.2.1 12 = .ok (.invokestatic 76, 3) := by decide +kernel
theorem dX9_ran_15 : decode mX9_ran.2.1 15 = .ok (.ifCond .ne 11, 3) := by decide +kernel
theorem dX9_ran_18 : decode mX9_ran.2.1 18 = .ok (.iload_n 2, 1) := by decide +kernel
theorem dX9_ran_19 : decode mX9_ran.2.1 19 = .ok (.iconst 3, 1) := by decide +kernel
theorem dX9_ran_20 : decode mX9_ran.2.1 20 = .ok (.invokestatic 76, 3) := by decide +kernel
theorem dX9_ran_23 : decode mX9_ran.2.1 23 = .ok (.ifCond .eq 8, 3) := by decide +kernel
theorem dX9_ran_26 : decode mX9_ran.2.1 26 = .ok (.aload_n 0, 1) := by decide +kernel
theorem dX9_ran_27 : decode mX9_ran.2.1 27 = .ok (.invokevirtual 80, 3) := by decide +kernel
theorem dX9_ran_30 : decode mX9_ran.2.1 30 = .ok (.ireturn, 1) := by decide +kernel
theorem dX9_ran_31 : decode mX9_ran.2.1 31 = .ok (.aload_n 0, 1) := by decide +kernel
theorem dX9_ran_32 : decode mX9_ran.2.1 32 = .ok (.invokevirtual 159, 3) := by decide +kernel
theorem dX9_ran_35 : decode mX9_ran.2.1 35 = .ok (.aload_n 0, 1) := by decide +kernel
theorem dX9_ran_36 : decode mX9_ran.2.1 36 = .ok (.iload_n 1, 1) := by decide +kernel
theorem dX9_ran_37 : decode mX9_ran.2.1 37 = .ok (.iload_n 2, 1) := by decide +kernel
theorem dX9_ran_38 : decode mX9_ran.2.1 38 = .ok (.invokevirtual 165, 3) := by decide +kernel
theorem dX9_ran_41 : decode mX9_ran.2.1 41 = .ok (.ireturn, 1) := by decide +kernel
theorem dX9_held_0 : decode mX9_held.2.1 0 = .ok (.aload_n 0, 1) := by decide +kernel
theorem dX9_held_1 : decode mX9_held.2.1 1 = .ok (.invokevirtual 159, 3) := by decide +kernel
theorem dX9_held_4 : decode mX9_held.2.1 4 = .ok (.aload_n 0, 1) := by decide +kernel
theorem dX9_held_5 : decode mX9_held.2.1 5 = .ok (.getfield 72, 3) := by decide +kernel
theorem dX9_held_8 : decode mX9_held.2.1 8 = .ok (.invokevirtual 168, 3) := by decide +kernel
theorem dX9_held_11 : decode mX9_held.2.1 11 = .ok (.ireturn, 1) := by decide +kernel
theorem dX9_back_0 : decode mX9_back.2.1 0 = .ok (.aload_n 0, 1) := by decide +kernel
theorem dX9_back_1 : decode mX9_back.2.1 1 = .ok (.getfield 38, 3) := by decide +kernel
theorem dX9_back_4 : decode mX9_back.2.1 4 = .ok (.invokevirtual 171, 3) := by decide +kernel
theorem dX9_back_7 : decode mX9_back.2.1 7 = .ok (.ifCond .ne 8, 3) := by decide +kernel
theorem dX9_back_10 : decode mX9_back.2.1 10 = .ok (.aload_n 0, 1) := by decide +kernel
theorem dX9_back_11 : decode mX9_back.2.1 11 = .ok (.invokevirtual 172, 3) := by decide +kernel
theorem dX9_back_14 : decode mX9_back.2.1 14 = .ok (.ireturn, 1) := by decide +kernel
theorem dX9_back_15 : decode mX9_back.2.1 15 = .ok (.aload_n 0, 1) := by decide +kernel
theorem dX9_back_16 : decode mX9_back.2.1 16 = .ok (.getfield 38, 3) := by decide +kernel
theorem dX9_back_19 : decode mX9_back.2.1 19 = .ok (.aload_n 0, 1) := by decide +kernel
theorem dX9_back_20 : decode mX9_back.2.1 20 = .ok (.getfield 19, 3) := by decide +kernel
theorem dX9_back_23 : decode mX9_back.2.1 23 = .ok (.invokevirtual 175, 3) := by decide +kernel
theorem dX9_back_26 : decode mX9_back.2.1 26 = .ok (.aload_n 0, 1) := by decide +kernel
theorem dX9_back_27 : decode mX9_back.2.1 27 = .ok (.invokevirtual 178, 3) := by decide +kernel
theorem dX9_back_30 : decode mX9_back.2.1 30 = .ok (.aload_n 0, 1) := by decide +kernel
theorem dX9_back_31 : decode mX9_back.2.1 31 = .ok (.getfield 38, 3) := by decide +kernel
theorem dX9_back_34 : decode mX9_back.2.1 34 = .ok (.invokevirtual 171, 3) := by decide +kernel
theorem dX9_back_37 : decode mX9_back.2.1 37 = .ok (.ireturn, 1) := by decide +kernel
theorem dX9_told_0 : decode mX9_told.2.1 0 = .ok (.iload_n 1, 1) := by decide +kernel
theorem dX9_told_1 : decode mX9_told.2.1 1 = .ok (.bipush 7, 2) := by decide +kernel
theorem dX9_told_3 : decode mX9_told.2.1 3 = .ok (.invokestatic 76, 3) := by decide +kernel
theorem dX9_told_6 : decode mX9_told.2.1 6 = .ok (.ifCond .eq 8, 3) := by decide +kernel
theorem dX9_told_9 : decode mX9_told.2.1 9 = .ok (.aload_n 0, 1) := by decide +kernel
theorem dX9_told_10 : decode mX9_told.2.1 10 = .ok (.invokevirtual 80, 3) := by decide +kernel
theorem dX9_told_13 : decode mX9_told.2.1 13 = .ok (.ireturn, 1) := by decide +kernel
theorem dX9_told_14 : decode mX9_told.2.1 14 = .ok (.aload_n 0, 1) := by decide +kernel
theorem dX9_told_15 : decode mX9_told.2.1 15 = .ok (.invokevirtual 132, 3) := by decide +kernel
theorem dX9_told_18 : decode mX9_told.2.1 18 = .ok (.aload_n 0, 1) := by decide +kernel
theorem dX9_told_19 : decode mX9_told.2.1 19 = .ok (.iload_n 1, 1) := by decide +kernel
theorem dX9_told_20 : decode mX9_told.2.1 20 = .ok (.invokevirtual 181, 3) := by decide +kernel
theorem dX9_told_23 : decode mX9_told.2.1 23 = .ok (.ireturn, 1) := by decide +kernel
theorem dX9_digest_0 : decode mX9_digest.2.1 0 = .ok (.aload_n 0, 1) := by decide +kernel
theorem dX9_digest_1 : decode mX9_digest.2.1 1 = .ok (.invokevirtual 159, 3) := by decide +kernel
theorem dX9_digest_4 : decode mX9_digest.2.1 4 = .ok (.ldc2_w 184, 3) := by decide +kernel
theorem dX9_digest_7 : decode mX9_digest.2.1 7 = .ok (.lstore_n 1, 1) := by decide +kernel
theorem dX9_digest_8 : decode mX9_digest.2.1 8 = .ok (.iconst 0, 1) := by decide +kernel
theorem dX9_digest_9 : decode mX9_digest.2.1 9 = .ok (.istore_n 3, 1) := by decide +kernel
theorem dX9_digest_10 : decode mX9_digest.2.1 10 = .ok (.iload_n 3, 1) := by decide +kernel
theorem dX9_digest_11 : decode mX9_digest.2.1 11 = .ok (.bipush 7, 2) := by decide +kernel
theorem dX9_digest_13 : decode mX9_digest.2.1 13 = .ok (.if_icmp .ge 22, 3) := by decide +kernel
theorem dX9_digest_16 : decode mX9_digest.2.1 16 = .ok (.ldc2_w 186, 3) := by decide +kernel
theorem dX9_digest_19 : decode mX9_digest.2.1 19 = .ok (.lload_n 1, 1) := by decide +kernel
theorem dX9_digest_20 : decode mX9_digest.2.1 20 = .ok (.lmul, 1) := by decide +kernel
theorem dX9_digest_21 : decode mX9_digest.2.1 21 = .ok (.aload_n 0, 1) := by decide +kernel
theorem dX9_digest_22 : decode mX9_digest.2.1 22 = .ok (.iload_n 3, 1) := by decide +kernel
theorem dX9_digest_23 : decode mX9_digest.2.1 23 = .ok (.invokevirtual 181, 3) := by decide +kernel
theorem dX9_digest_26 : decode mX9_digest.2.1 26 = .ok (.i2l, 1) := by decide +kernel
theorem dX9_digest_27 : decode mX9_digest.2.1 27 = .ok (.ladd, 1) := by decide +kernel
theorem dX9_digest_28 : decode mX9_digest.2.1 28 = .ok (.lstore_n 1, 1) := by decide +kernel
theorem dX9_digest_29 : decode mX9_digest.2.1 29 = .ok (.iinc 3 1, 3) := by decide +kernel
theorem dX9_digest_32 : decode mX9_digest.2.1 32 = .ok (.goto (-22), 3) := by decide +kernel
theorem dX9_digest_35 : decode mX9_digest.2.1 35 = .ok (.iconst 0, 1) := by decide +kernel
theorem dX9_digest_36 : decode mX9_digest.2.1 36 = .ok (.istore_n 3, 1) := by decide +kernel
theorem dX9_digest_37 : decode mX9_digest.2.1 37 = .ok (.iload_n 3, 1) := by decide +kernel
theorem dX9_digest_38 : decode mX9_digest.2.1 38 = .ok (.aload_n 0, 1) := by decide +kernel
theorem dX9_digest_39 : decode mX9_digest.2.1 39 = .ok (.getfield 19, 3) := by decide +kernel
theorem dX9_digest_42 : decode mX9_digest.2.1 42 = .ok (.invokevirtual 111, 3) := by decide +kernel
theorem dX9_digest_45 : decode mX9_digest.2.1 45 = .ok (.if_icmp .ge 16, 3) := by decide +kernel
theorem dX9_digest_48 : decode mX9_digest.2.1 48 = .ok (.aload_n 0, 1) := by decide +kernel
theorem dX9_digest_49 : decode mX9_digest.2.1 49 = .ok (.lload_n 1, 1) := by decide +kernel
theorem dX9_digest_50 : decode mX9_digest.2.1 50 = .ok (.iload_n 3, 1) := by decide +kernel
theorem dX9_digest_51 : decode mX9_digest.2.1 51 = .ok (.invokevirtual 188, 3) := by decide +kernel
theorem dX9_digest_54 : decode mX9_digest.2.1 54 = .ok (.lstore_n 1, 1) := by decide +kernel
theorem dX9_digest_55 : decode mX9_digest.2.1 55 = .ok (.iinc 3 1, 3) := by decide +kernel
theorem dX9_digest_58 : decode mX9_digest.2.1 58 = .ok (.goto (-21), 3) := by decide +kernel
theorem dX9_digest_61 : decode mX9_digest.2.1 61 = .ok (.iconst 0, 1) := by decide +kernel
theorem dX9_digest_62 : decode mX9_digest.2.1 62 = .ok (.istore_n 3, 1) := by decide +kernel
theorem dX9_digest_63 : decode mX9_digest.2.1 63 = .ok (.iload_n 3, 1) := by decide +kernel
theorem dX9_digest_64 : decode mX9_digest.2.1 64 = .ok (.aload_n 0, 1) := by decide +kernel
theorem dX9_digest_65 : decode mX9_digest.2.1 65 = .ok (.getfield 45, 3) := by decide +kernel
theorem dX9_digest_68 : decode mX9_digest.2.1 68 = .ok (.invokevirtual 143, 3) := by decide +kernel
theorem dX9_digest_71 : decode mX9_digest.2.1 71 = .ok (.if_icmp .ge 16, 3) := by decide +kernel
theorem dX9_digest_74 : decode mX9_digest.2.1 74 = .ok (.aload_n 0, 1) := by decide +kernel
theorem dX9_digest_75 : decode mX9_digest.2.1 75 = .ok (.lload_n 1, 1) := by decide +kernel
theorem dX9_digest_76 : decode mX9_digest.2.1 76 = .ok (.iload_n 3, 1) := by decide +kernel
theorem dX9_digest_77 : decode mX9_digest.2.1 77 = .ok (.invokevirtual 192, 3) := by decide +kernel
theorem dX9_digest_80 : decode mX9_digest.2.1 80 = .ok (.lstore_n 1, 1) := by decide +kernel
theorem dX9_digest_81 : decode mX9_digest.2.1 81 = .ok (.iinc 3 1, 3) := by decide +kernel
theorem dX9_digest_84 : decode mX9_digest.2.1 84 = .ok (.goto (-21), 3) := by decide +kernel
theorem dX9_digest_87 : decode mX9_digest.2.1 87 = .ok (.ldc2_w 186, 3) := by decide +kernel
theorem dX9_digest_90 : decode mX9_digest.2.1 90 = .ok (.lload_n 1, 1) := by decide +kernel
theorem dX9_digest_91 : decode mX9_digest.2.1 91 = .ok (.lmul, 1) := by decide +kernel
theorem dX9_digest_92 : decode mX9_digest.2.1 92 = .ok (.aload_n 0, 1) := by decide +kernel
theorem dX9_digest_93 : decode mX9_digest.2.1 93 = .ok (.getfield 54, 3) := by decide +kernel
theorem dX9_digest_96 : decode mX9_digest.2.1 96 = .ok (.invokevirtual 150, 3) := by decide +kernel
theorem dX9_digest_99 : decode mX9_digest.2.1 99 = .ok (.i2l, 1) := by decide +kernel
theorem dX9_digest_100 : decode mX9_digest.2.1 100 = .ok (.ladd, 1) := by decide +kernel
theorem dX9_digest_101 : decode mX9_digest.2.1 101 = .ok (.lstore_n 1, 1) := by decide +kernel
theorem dX9_digest_102 : decode mX9_digest.2.1 102 = .ok (.iconst 0, 1) := by decide +kernel
theorem dX9_digest_103 : decode mX9_digest.2.1 103 = .ok (.istore_n 3, 1) := by decide +kernel
theorem dX9_digest_104 : decode mX9_digest.2.1 104 = .ok (.iload_n 3, 1) := by decide +kernel
theorem dX9_digest_105 : decode mX9_digest.2.1 105 = .ok (.bipush 6, 2) := by decide +kernel
theorem dX9_digest_107 : decode mX9_digest.2.1 107 = .ok (.if_icmp .ge 22, 3) := by decide +kernel
theorem dX9_digest_110 : decode mX9_digest.2.1 110 = .ok (.ldc2_w 186, 3) := by decide +kernel
theorem dX9_digest_113 : decode mX9_digest.2.1 113 = .ok (.lload_n 1, 1) := by decide +kernel
theorem dX9_digest_114 : decode mX9_digest.2.1 114 = .ok (.lmul, 1) := by decide +kernel
theorem dX9_digest_115 : decode mX9_digest.2.1 115 = .ok (.aload_n 0, 1) := by decide +kernel
theorem dX9_digest_116 : decode mX9_digest.2.1 116 = .ok (.iload_n 3, 1) := by decide +kernel
theorem dX9_digest_117 : decode mX9_digest.2.1 117 = .ok (.invokevirtual 162, 3) := by decide +kernel
theorem dX9_digest_120 : decode mX9_digest.2.1 120 = .ok (.i2l, 1) := by decide +kernel
theorem dX9_digest_121 : decode mX9_digest.2.1 121 = .ok (.ladd, 1) := by decide +kernel
theorem dX9_digest_122 : decode mX9_digest.2.1 122 = .ok (.lstore_n 1, 1) := by decide +kernel
theorem dX9_digest_123 : decode mX9_digest.2.1 123 = .ok (.iinc 3 1, 3) := by decide +kernel
theorem dX9_digest_126 : decode mX9_digest.2.1 126 = .ok (.goto (-22), 3) := by decide +kernel
theorem dX9_digest_129 : decode mX9_digest.2.1 129 = .ok (.ldc2_w 186, 3) := by decide +kernel
theorem dX9_digest_132 : decode mX9_digest.2.1 132 = .ok (.lload_n 1, 1) := by decide +kernel
theorem dX9_digest_133 : decode mX9_digest.2.1 133 = .ok (.lmul, 1) := by decide +kernel
theorem dX9_digest_134 : decode mX9_digest.2.1 134 = .ok (.aload_n 0, 1) := by decide +kernel
theorem dX9_digest_135 : decode mX9_digest.2.1 135 = .ok (.getfield 72, 3) := by decide +kernel
theorem dX9_digest_138 : decode mX9_digest.2.1 138 = .ok (.invokevirtual 168, 3) := by decide +kernel
theorem dX9_digest_141 : decode mX9_digest.2.1 141 = .ok (.i2l, 1) := by decide +kernel
theorem dX9_digest_142 : decode mX9_digest.2.1 142 = .ok (.ladd, 1) := by decide +kernel
theorem dX9_digest_143 : decode mX9_digest.2.1 143 = .ok (.lreturn, 1) := by decide +kernel
theorem dX9_digestWithMethod_0 : decode mX9_digestWithMethod.2.1 0 = .ok (.lload_n 1, 1) := by decide +kernel
theorem dX9_digestWithMethod_1 : decode mX9_digestWithMethod.2.1 1 = .ok (.lstore 4, 2) := by decide +kernel
theorem dX9_digestWithMethod_3 : decode mX9_digestWithMethod.2.1 3 = .ok (.iconst 0, 1) := by decide +kernel
theorem dX9_digestWithMethod_4 : decode mX9_digestWithMethod.2.1 4 = .ok (.istore 6, 2) := by decide +kernel
theorem dX9_digestWithMethod_6 : decode mX9_digestWithMethod.2.1 6 = .ok (.iload 6, 2) := by decide +kernel
theorem dX9_digestWithMethod_8 : decode mX9_digestWithMethod.2.1 8 = .ok (.iconst 5, 1) := by decide +kernel
theorem dX9_digestWithMethod_9 : decode mX9_digestWithMethod.2.1 9 = .ok (.if_icmp .ge 26, 3) := by decide +kernel
theorem dX9_digestWithMethod_12 : decode mX9_digestWithMethod.2.1 12 = .ok (.ldc2_w 186, 3) := by decide +kernel
theorem dX9_digestWithMethod_15 : decode mX9_digestWithMethod.2.1 15 = .ok (.lload 4, 2) := by decide +kernel
theorem dX9_digestWithMethod_17 : decode mX9_digestWithMethod.2.1 17 = .ok (.lmul, 1) := by decide +kernel
theorem dX9_digestWithMethod_18 : decode mX9_digestWithMethod.2.1 18 = .ok (.aload_n 0, 1) := by decide +kernel
theorem dX9_digestWithMethod_19 : decode mX9_digestWithMethod.2.1 19 = .ok (.iload_n 3, 1) := by decide +kernel
theorem dX9_digestWithMethod_20 : decode mX9_digestWithMethod.2.1 20 = .ok (.iload 6, 2) := by decide +kernel
theorem dX9_digestWithMethod_22 : decode mX9_digestWithMethod.2.1 22 = .ok (.invokevirtual 135, 3) := by decide +kernel
theorem dX9_digestWithMethod_25 : decode mX9_digestWithMethod.2.1 25 = .ok (.i2l, 1) := by decide +kernel
theorem dX9_digestWithMethod_26 : decode mX9_digestWithMethod.2.1 26 = .ok (.ladd, 1) := by decide +kernel
theorem dX9_digestWithMethod_27 : decode mX9_digestWithMethod.2.1 27 = .ok (.lstore 4, 2) := by decide +kernel
theorem dX9_digestWithMethod_29 : decode mX9_digestWithMethod.2.1 29 = .ok (.iinc 6 1, 3) := by decide +kernel
theorem dX9_digestWithMethod_32 : decode mX9_digestWithMethod.2.1 32 = .ok (.goto (-26), 3) := by decide +kernel
theorem dX9_digestWithMethod_35 : decode mX9_digestWithMethod.2.1 35 = .ok (.iconst 0, 1) := by decide +kernel
theorem dX9_digestWithMethod_36 : decode mX9_digestWithMethod.2.1 36 = .ok (.istore 6, 2) := by decide +kernel
theorem dX9_digestWithMethod_38 : decode mX9_digestWithMethod.2.1 38 = .ok (.iload 6, 2) := by decide +kernel
theorem dX9_digestWithMethod_40 : decode mX9_digestWithMethod.2.1 40 = .ok (.iconst 4, 1) := by decide +kernel
theorem dX9_digestWithMethod_41 : decode mX9_digestWithMethod.2.1 41 = .ok (.if_icmp .ge 29, 3) := by decide +kernel
theorem dX9_digestWithMethod_44 : decode mX9_digestWithMethod.2.1 44 = .ok (.ldc2_w 186, 3) := by decide +kernel
theorem dX9_digestWithMethod_47 : decode mX9_digestWithMethod.2.1 47 = .ok (.lload 4, 2) := by decide +kernel
theorem dX9_digestWithMethod_49 : decode mX9_digestWithMethod.2.1 49 = .ok (.lmul, 1) := by decide +kernel
theorem dX9_digestWithMethod_50 : decode mX9_digestWithMethod.2.1 50 = .ok (.aload_n 0, 1) := by decide +kernel
theorem dX9_digestWithMethod_51 : decode mX9_digestWithMethod.2.1 51 = .ok (.getfield 54, 3) := by decide +kernel
theorem dX9_digestWithMethod_54 : decode mX9_digestWithMethod.2.1 54 = .ok (.iload_n 3, 1) := by decide +kernel
theorem dX9_digestWithMethod_55 : decode mX9_digestWithMethod.2.1 55 = .ok (.iload 6, 2) := by decide +kernel
theorem dX9_digestWithMethod_57 : decode mX9_digestWithMethod.2.1 57 = .ok (.invokevirtual 147, 3) := by decide +kernel
theorem dX9_digestWithMethod_60 : decode mX9_digestWithMethod.2.1 60 = .ok (.i2l, 1) := by decide +kernel
theorem dX9_digestWithMethod_61 : decode mX9_digestWithMethod.2.1 61 = .ok (.ladd, 1) := by decide +kernel
theorem dX9_digestWithMethod_62 : decode mX9_digestWithMethod.2.1 62 = .ok (.lstore 4, 2) := by decide +kernel
theorem dX9_digestWithMethod_64 : decode mX9_digestWithMethod.2.1 64 = .ok (.iinc 6 1, 3) := by decide +kernel
theorem dX9_digestWithMethod_67 : decode mX9_digestWithMethod.2.1 67 = .ok (.goto (-29), 3) := by decide +kernel
theorem dX9_digestWithMethod_70 : decode mX9_digestWithMethod.2.1 70 = .ok (.iconst 0, 1) := by decide +kernel
theorem dX9_digestWithMethod_71 : decode mX9_digestWithMethod.2.1 71 = .ok (.istore 6, 2) := by decide +kernel
theorem dX9_digestWithMethod_73 : decode mX9_digestWithMethod.2.1 73 = .ok (.iload 6, 2) := by decide +kernel
theorem dX9_digestWithMethod_75 : decode mX9_digestWithMethod.2.1 75 = .ok (.aload_n 0, 1) := by decide +kernel
theorem dX9_digestWithMethod_76 : decode mX9_digestWithMethod.2.1 76 = .ok (.getfield 19, 3) := by decide +kernel
theorem dX9_digestWithMethod_79 : decode mX9_digestWithMethod.2.1 79 = .ok (.iload_n 3, 1) := by decide +kernel
theorem dX9_digestWithMethod_80 : decode mX9_digestWithMethod.2.1 80 = .ok (.invokevirtual 121, 3) := by decide +kernel
theorem dX9_digestWithMethod_83 : decode mX9_digestWithMethod.2.1 83 = .ok (.if_icmp .ge 43, 3) := by decide +kernel
theorem dX9_digestWithMethod_86 : decode mX9_digestWithMethod.2.1 86 = .ok (.iconst 0, 1) := by decide +kernel
theorem dX9_digestWithMethod_87 : decode mX9_digestWithMethod.2.1 87 = .ok (.istore 7, 2) := by decide +kernel
theorem dX9_digestWithMethod_89 : decode mX9_digestWithMethod.2.1 89 = .ok (.iload 7, 2) := by decide +kernel
theorem dX9_digestWithMethod_91 : decode mX9_digestWithMethod.2.1 91 = .ok (.iconst 5, 1) := by decide +kernel
theorem dX9_digestWithMethod_92 : decode mX9_digestWithMethod.2.1 92 = .ok (.if_icmp .ge 28, 3) := by decide +kernel
theorem dX9_digestWithMethod_95 : decode mX9_digestWithMethod.2.1 95 = .ok (.ldc2_w 186, 3) := by decide +kernel
theorem dX9_digestWithMethod_98 : decode mX9_digestWithMethod.2.1 98 = .ok (.lload 4, 2) := by decide +kernel
theorem dX9_digestWithMethod_100 : decode mX9_digestWithMethod.2.1 100 = .ok (.lmul, 1) := by decide +kernel
theorem dX9_digestWithMethod_101 : decode mX9_digestWithMethod.2.1 101 = .ok (.aload_n 0, 1) := by decide +kernel
theorem dX9_digestWithMethod_102 : decode mX9_digestWithMethod.2.1 102 = .ok (.iload_n 3, 1) := by decide +kernel
theorem dX9_digestWithMethod_103 : decode mX9_digestWithMethod.2.1 103 = .ok (.iload 6, 2) := by decide +kernel
theorem dX9_digestWithMethod_105 : decode mX9_digestWithMethod.2.1 105 = .ok (.iload 7, 2) := by decide +kernel
theorem dX9_digestWithMethod_107 : decode mX9_digestWithMethod.2.1 107 = .ok (.invokevirtual 139, 3) := by decide +kernel
theorem dX9_digestWithMethod_110 : decode mX9_digestWithMethod.2.1 110 = .ok (.i2l, 1) := by decide +kernel
theorem dX9_digestWithMethod_111 : decode mX9_digestWithMethod.2.1 111 = .ok (.ladd, 1) := by decide +kernel
theorem dX9_digestWithMethod_112 : decode mX9_digestWithMethod.2.1 112 = .ok (.lstore 4, 2) := by decide +kernel
theorem dX9_digestWithMethod_114 : decode mX9_digestWithMethod.2.1 114 = .ok (.iinc 7 1, 3) := by decide +kernel
theorem dX9_digestWithMethod_117 : decode mX9_digestWithMethod.2.1 117 = .ok (.goto (-28), 3) := by decide +kernel
theorem dX9_digestWithMethod_120 : decode mX9_digestWithMethod.2.1 120 = .ok (.iinc 6 1, 3) := by decide +kernel
theorem dX9_digestWithMethod_123 : decode mX9_digestWithMethod.2.1 123 = .ok (.goto (-50), 3) := by decide +kernel
theorem dX9_digestWithMethod_126 : decode mX9_digestWithMethod.2.1 126 = .ok (.lload 4, 2) := by decide +kernel
theorem dX9_digestWithMethod_128 : decode mX9_digestWithMethod.2.1 128 = .ok (.lreturn, 1) := by decide +kernel
theorem dX9_digestWithSite_0 : decode mX9_digestWithSite.2.1 0 = .ok (.lload_n 1, 1) := by decide +kernel
theorem dX9_digestWithSite_1 : decode mX9_digestWithSite.2.1 1 = .ok (.lstore 4, 2) := by decide +kernel
theorem dX9_digestWithSite_3 : decode mX9_digestWithSite.2.1 3 = .ok (.iconst 0, 1) := by decide +kernel
theorem dX9_digestWithSite_4 : decode mX9_digestWithSite.2.1 4 = .ok (.istore 6, 2) := by decide +kernel
theorem dX9_digestWithSite_6 : decode mX9_digestWithSite.2.1 6 = .ok (.iload 6, 2) := by decide +kernel
theorem dX9_digestWithSite_8 : decode mX9_digestWithSite.2.1 8 = .ok (.iconst 4, 1) := by decide +kernel
theorem dX9_digestWithSite_9 : decode mX9_digestWithSite.2.1 9 = .ok (.if_icmp .ge 26, 3) := by decide +kernel
theorem dX9_digestWithSite_12 : decode mX9_digestWithSite.2.1 12 = .ok (.ldc2_w 186, 3) := by decide +kernel
theorem dX9_digestWithSite_15 : decode mX9_digestWithSite.2.1 15 = .ok (.lload 4, 2) := by decide +kernel
theorem dX9_digestWithSite_17 : decode mX9_digestWithSite.2.1 17 = .ok (.lmul, 1) := by decide +kernel
theorem dX9_digestWithSite_18 : decode mX9_digestWithSite.2.1 18 = .ok (.aload_n 0, 1) := by decide +kernel
theorem dX9_digestWithSite_19 : decode mX9_digestWithSite.2.1 19 = .ok (.iload_n 3, 1) := by decide +kernel
theorem dX9_digestWithSite_20 : decode mX9_digestWithSite.2.1 20 = .ok (.iload 6, 2) := by decide +kernel
theorem dX9_digestWithSite_22 : decode mX9_digestWithSite.2.1 22 = .ok (.invokevirtual 144, 3) := by decide +kernel
theorem dX9_digestWithSite_25 : decode mX9_digestWithSite.2.1 25 = .ok (.i2l, 1) := by decide +kernel
theorem dX9_digestWithSite_26 : decode mX9_digestWithSite.2.1 26 = .ok (.ladd, 1) := by decide +kernel
theorem dX9_digestWithSite_27 : decode mX9_digestWithSite.2.1 27 = .ok (.lstore 4, 2) := by decide +kernel
theorem dX9_digestWithSite_29 : decode mX9_digestWithSite.2.1 29 = .ok (.iinc 6 1, 3) := by decide +kernel
theorem dX9_digestWithSite_32 : decode mX9_digestWithSite.2.1 32 = .ok (.goto (-26), 3) := by decide +kernel
theorem dX9_digestWithSite_35 : decode mX9_digestWithSite.2.1 35 = .ok (.iconst 0, 1) := by decide +kernel
theorem dX9_digestWithSite_36 : decode mX9_digestWithSite.2.1 36 = .ok (.istore 6, 2) := by decide +kernel
theorem dX9_digestWithSite_38 : decode mX9_digestWithSite.2.1 38 = .ok (.iload 6, 2) := by decide +kernel
theorem dX9_digestWithSite_40 : decode mX9_digestWithSite.2.1 40 = .ok (.iconst 3, 1) := by decide +kernel
theorem dX9_digestWithSite_41 : decode mX9_digestWithSite.2.1 41 = .ok (.if_icmp .ge 26, 3) := by decide +kernel
theorem dX9_digestWithSite_44 : decode mX9_digestWithSite.2.1 44 = .ok (.ldc2_w 186, 3) := by decide +kernel
theorem dX9_digestWithSite_47 : decode mX9_digestWithSite.2.1 47 = .ok (.lload 4, 2) := by decide +kernel
theorem dX9_digestWithSite_49 : decode mX9_digestWithSite.2.1 49 = .ok (.lmul, 1) := by decide +kernel
theorem dX9_digestWithSite_50 : decode mX9_digestWithSite.2.1 50 = .ok (.aload_n 0, 1) := by decide +kernel
theorem dX9_digestWithSite_51 : decode mX9_digestWithSite.2.1 51 = .ok (.iload_n 3, 1) := by decide +kernel
theorem dX9_digestWithSite_52 : decode mX9_digestWithSite.2.1 52 = .ok (.iload 6, 2) := by decide +kernel
theorem dX9_digestWithSite_54 : decode mX9_digestWithSite.2.1 54 = .ok (.invokevirtual 165, 3) := by decide +kernel
theorem dX9_digestWithSite_57 : decode mX9_digestWithSite.2.1 57 = .ok (.i2l, 1) := by decide +kernel
theorem dX9_digestWithSite_58 : decode mX9_digestWithSite.2.1 58 = .ok (.ladd, 1) := by decide +kernel
theorem dX9_digestWithSite_59 : decode mX9_digestWithSite.2.1 59 = .ok (.lstore 4, 2) := by decide +kernel
theorem dX9_digestWithSite_61 : decode mX9_digestWithSite.2.1 61 = .ok (.iinc 6 1, 3) := by decide +kernel
theorem dX9_digestWithSite_64 : decode mX9_digestWithSite.2.1 64 = .ok (.goto (-26), 3) := by decide +kernel
theorem dX9_digestWithSite_67 : decode mX9_digestWithSite.2.1 67 = .ok (.lload 4, 2) := by decide +kernel
theorem dX9_digestWithSite_69 : decode mX9_digestWithSite.2.1 69 = .ok (.lreturn, 1) := by decide +kernel
theorem dX9_ofMethod_0 : decode mX9_ofMethod.2.1 0 = .ok (.iload_n 2, 1) := by decide +kernel
theorem dX9_ofMethod_1 : decode mX9_ofMethod.2.1 1 = .ok (.tableswitch 67 0 3 #[31, 40, 49, 58], 31) := by decide +kernel
theorem dX9_ofMethod_32 : decode mX9_ofMethod.2.1 32 = .ok (.aload_n 0, 1) := by decide +kernel
theorem dX9_ofMethod_33 : decode mX9_ofMethod.2.1 33 = .ok (.getfield 19, 3) := by decide +kernel
theorem dX9_ofMethod_36 : decode mX9_ofMethod.2.1 36 = .ok (.iload_n 1, 1) := by decide +kernel
theorem dX9_ofMethod_37 : decode mX9_ofMethod.2.1 37 = .ok (.invokevirtual 121, 3) := by decide +kernel
theorem dX9_ofMethod_40 : decode mX9_ofMethod.2.1 40 = .ok (.ireturn, 1) := by decide +kernel
theorem dX9_ofMethod_41 : decode mX9_ofMethod.2.1 41 = .ok (.aload_n 0, 1) := by decide +kernel
theorem dX9_ofMethod_42 : decode mX9_ofMethod.2.1 42 = .ok (.getfield 45, 3) := by decide +kernel
theorem dX9_ofMethod_45 : decode mX9_ofMethod.2.1 45 = .ok (.iload_n 1, 1) := by decide +kernel
theorem dX9_ofMethod_46 : decode mX9_ofMethod.2.1 46 = .ok (.invokevirtual 195, 3) := by decide +kernel
theorem dX9_ofMethod_49 : decode mX9_ofMethod.2.1 49 = .ok (.ireturn, 1) := by decide +kernel
theorem dX9_ofMethod_50 : decode mX9_ofMethod.2.1 50 = .ok (.aload_n 0, 1) := by decide +kernel
theorem dX9_ofMethod_51 : decode mX9_ofMethod.2.1 51 = .ok (.getfield 63, 3) := by decide +kernel
theorem dX9_ofMethod_54 : decode mX9_ofMethod.2.1 54 = .ok (.iload_n 1, 1) := by decide +kernel
theorem dX9_ofMethod_55 : decode mX9_ofMethod.2.1 55 = .ok (.invokevirtual 198, 3) := by decide +kernel
theorem dX9_ofMethod_58 : decode mX9_ofMethod.2.1 58 = .ok (.ireturn, 1) := by decide +kernel
theorem dX9_ofMethod_59 : decode mX9_ofMethod.2.1 59 = .ok (.aload_n 0, 1) := by decide +kernel
theorem dX9_ofMethod_60 : decode mX9_ofMethod.2.1 60 = .ok (.getfield 63, 3) := by decide +kernel
theorem dX9_ofMethod_63 : decode mX9_ofMethod.2.1 63 = .ok (.iload_n 1, 1) := by decide +kernel
theorem dX9_ofMethod_64 : decode mX9_ofMethod.2.1 64 = .ok (.invokevirtual 201, 3) := by decide +kernel
theorem dX9_ofMethod_67 : decode mX9_ofMethod.2.1 67 = .ok (.ireturn, 1) := by decide +kernel
theorem dX9_ofMethod_68 : decode mX9_ofMethod.2.1 68 = .ok (.aload_n 0, 1) := by decide +kernel
theorem dX9_ofMethod_69 : decode mX9_ofMethod.2.1 69 = .ok (.getfield 19, 3) := by decide +kernel
theorem dX9_ofMethod_72 : decode mX9_ofMethod.2.1 72 = .ok (.iload_n 1, 1) := by decide +kernel
theorem dX9_ofMethod_73 : decode mX9_ofMethod.2.1 73 = .ok (.invokevirtual 204, 3) := by decide +kernel
theorem dX9_ofMethod_76 : decode mX9_ofMethod.2.1 76 = .ok (.ireturn, 1) := by decide +kernel
theorem dX9_ofLine_0 : decode mX9_ofLine.2.1 0 = .ok (.iload_n 3, 1) := by decide +kernel
theorem dX9_ofLine_1 : decode mX9_ofLine.2.1 1 = .ok (.tableswitch 105 0 3 #[31, 41, 51, 77], 31) := by decide +kernel
theorem dX9_ofLine_32 : decode mX9_ofLine.2.1 32 = .ok (.aload_n 0, 1) := by decide +kernel
theorem dX9_ofLine_33 : decode mX9_ofLine.2.1 33 = .ok (.getfield 19, 3) := by decide +kernel
theorem dX9_ofLine_36 : decode mX9_ofLine.2.1 36 = .ok (.iload_n 1, 1) := by decide +kernel
theorem dX9_ofLine_37 : decode mX9_ofLine.2.1 37 = .ok (.iload_n 2, 1) := by decide +kernel
theorem dX9_ofLine_38 : decode mX9_ofLine.2.1 38 = .ok (.invokevirtual 207, 3) := by decide +kernel
theorem dX9_ofLine_41 : decode mX9_ofLine.2.1 41 = .ok (.ireturn, 1) := by decide +kernel
theorem dX9_ofLine_42 : decode mX9_ofLine.2.1 42 = .ok (.aload_n 0, 1) := by decide +kernel
theorem dX9_ofLine_43 : decode mX9_ofLine.2.1 43 = .ok (.getfield 19, 3) := by decide +kernel
theorem dX9_ofLine_46 : decode mX9_ofLine.2.1 46 = .ok (.iload_n 1, 1) := by decide +kernel
theorem dX9_ofLine_47 : decode mX9_ofLine.2.1 47 = .ok (.iload_n 2, 1) := by decide +kernel
theorem dX9_ofLine_48 : decode mX9_ofLine.2.1 48 = .ok (.invokevirtual 210, 3) := by decide +kernel
theorem dX9_ofLine_51 : decode mX9_ofLine.2.1 51 = .ok (.ireturn, 1) := by decide +kernel
theorem dX9_ofLine_52 : decode mX9_ofLine.2.1 52 = .ok (.aload_n 0, 1) := by decide +kernel
theorem dX9_ofLine_53 : decode mX9_ofLine.2.1 53 = .ok (.getfield 19, 3) := by decide +kernel
theorem dX9_ofLine_56 : decode mX9_ofLine.2.1 56 = .ok (.iload_n 1, 1) := by decide +kernel
theorem dX9_ofLine_57 : decode mX9_ofLine.2.1 57 = .ok (.iload_n 2, 1) := by decide +kernel
theorem dX9_ofLine_58 : decode mX9_ofLine.2.1 58 = .ok (.invokevirtual 213, 3) := by decide +kernel
theorem dX9_ofLine_61 : decode mX9_ofLine.2.1 61 = .ok (.ifCond .eq 15, 3) := by decide +kernel
theorem dX9_ofLine_64 : decode mX9_ofLine.2.1 64 = .ok (.aload_n 0, 1) := by decide +kernel
theorem dX9_ofLine_65 : decode mX9_ofLine.2.1 65 = .ok (.getfield 19, 3) := by decide +kernel
theorem dX9_ofLine_68 : decode mX9_ofLine.2.1 68 = .ok (.iload_n 1, 1) := by decide +kernel
theorem dX9_ofLine_69 : decode mX9_ofLine.2.1 69 = .ok (.iload_n 2, 1) := by decide +kernel
theorem dX9_ofLine_70 : decode mX9_ofLine.2.1 70 = .ok (.invokevirtual 216, 3) := by decide +kernel
theorem dX9_ofLine_73 : decode mX9_ofLine.2.1 73 = .ok (.goto 4, 3) := by decide +kernel
theorem dX9_ofLine_76 : decode mX9_ofLine.2.1 76 = .ok (.iconst (-1), 1) := by decide +kernel
theorem dX9_ofLine_77 : decode mX9_ofLine.2.1 77 = .ok (.ireturn, 1) := by decide +kernel
theorem dX9_ofLine_78 : decode mX9_ofLine.2.1 78 = .ok (.aload_n 0, 1) := by decide +kernel
theorem dX9_ofLine_79 : decode mX9_ofLine.2.1 79 = .ok (.getfield 19, 3) := by decide +kernel
theorem dX9_ofLine_82 : decode mX9_ofLine.2.1 82 = .ok (.iload_n 1, 1) := by decide +kernel
theorem dX9_ofLine_83 : decode mX9_ofLine.2.1 83 = .ok (.iload_n 2, 1) := by decide +kernel
theorem dX9_ofLine_84 : decode mX9_ofLine.2.1 84 = .ok (.invokevirtual 207, 3) := by decide +kernel
theorem dX9_ofLine_87 : decode mX9_ofLine.2.1 87 = .ok (.bipush 7, 2) := by decide +kernel
theorem dX9_ofLine_89 : decode mX9_ofLine.2.1 89 = .ok (.if_icmp .ne 15, 3) := by decide +kernel
theorem dX9_ofLine_92 : decode mX9_ofLine.2.1 92 = .ok (.aload_n 0, 1) := by decide +kernel
theorem dX9_ofLine_93 : decode mX9_ofLine.2.1 93 = .ok (.getfield 19, 3) := by decide +kernel
theorem dX9_ofLine_96 : decode mX9_ofLine.2.1 96 = .ok (.iload_n 1, 1) := by decide +kernel
theorem dX9_ofLine_97 : decode mX9_ofLine.2.1 97 = .ok (.iload_n 2, 1) := by decide +kernel
theorem dX9_ofLine_98 : decode mX9_ofLine.2.1 98 = .ok (.invokevirtual 219, 3) := by decide +kernel
theorem dX9_ofLine_101 : decode mX9_ofLine.2.1 101 = .ok (.goto 4, 3) := by decide +kernel
theorem dX9_ofLine_104 : decode mX9_ofLine.2.1 104 = .ok (.iconst (-1), 1) := by decide +kernel
theorem dX9_ofLine_105 : decode mX9_ofLine.2.1 105 = .ok (.ireturn, 1) := by decide +kernel
theorem dX9_ofLine_106 : decode mX9_ofLine.2.1 106 = .ok (.aload_n 0, 1) := by decide +kernel
theorem dX9_ofLine_107 : decode mX9_ofLine.2.1 107 = .ok (.getfield 45, 3) := by decide +kernel
theorem dX9_ofLine_110 : decode mX9_ofLine.2.1 110 = .ok (.iload_n 1, 1) := by decide +kernel
theorem dX9_ofLine_111 : decode mX9_ofLine.2.1 111 = .ok (.iload_n 2, 1) := by decide +kernel
theorem dX9_ofLine_112 : decode mX9_ofLine.2.1 112 = .ok (.invokevirtual 222, 3) := by decide +kernel
theorem dX9_ofLine_115 : decode mX9_ofLine.2.1 115 = .ok (.ireturn, 1) := by decide +kernel
theorem dX9_ofSite_0 : decode mX9_ofSite.2.1 0 = .ok (.iload_n 2, 1) := by decide +kernel
theorem dX9_ofSite_1 : decode mX9_ofSite.2.1 1 = .ok (.tableswitch 54 0 2 #[27, 36, 45], 27) := by decide +kernel
theorem dX9_ofSite_28 : decode mX9_ofSite.2.1 28 = .ok (.aload_n 0, 1) := by decide +kernel
theorem dX9_ofSite_29 : decode mX9_ofSite.2.1 29 = .ok (.getfield 45, 3) := by decide +kernel
theorem dX9_ofSite_32 : decode mX9_ofSite.2.1 32 = .ok (.iload_n 1, 1) := by decide +kernel
theorem dX9_ofSite_33 : decode mX9_ofSite.2.1 33 = .ok (.invokevirtual 224, 3) := by decide +kernel
theorem dX9_ofSite_36 : decode mX9_ofSite.2.1 36 = .ok (.ireturn, 1) := by decide +kernel
theorem dX9_ofSite_37 : decode mX9_ofSite.2.1 37 = .ok (.aload_n 0, 1) := by decide +kernel
theorem dX9_ofSite_38 : decode mX9_ofSite.2.1 38 = .ok (.getfield 45, 3) := by decide +kernel
theorem dX9_ofSite_41 : decode mX9_ofSite.2.1 41 = .ok (.iload_n 1, 1) := by decide +kernel
theorem dX9_ofSite_42 : decode mX9_ofSite.2.1 42 = .ok (.invokevirtual 227, 3) := by decide +kernel
theorem dX9_ofSite_45 : decode mX9_ofSite.2.1 45 = .ok (.ireturn, 1) := by decide +kernel
theorem dX9_ofSite_46 : decode mX9_ofSite.2.1 46 = .ok (.aload_n 0, 1) := by decide +kernel
theorem dX9_ofSite_47 : decode mX9_ofSite.2.1 47 = .ok (.getfield 63, 3) := by decide +kernel
theorem dX9_ofSite_50 : decode mX9_ofSite.2.1 50 = .ok (.iload_n 1, 1) := by decide +kernel
theorem dX9_ofSite_51 : decode mX9_ofSite.2.1 51 = .ok (.invokevirtual 230, 3) := by decide +kernel
theorem dX9_ofSite_54 : decode mX9_ofSite.2.1 54 = .ok (.ireturn, 1) := by decide +kernel
theorem dX9_ofSite_55 : decode mX9_ofSite.2.1 55 = .ok (.aload_n 0, 1) := by decide +kernel
theorem dX9_ofSite_56 : decode mX9_ofSite.2.1 56 = .ok (.getfield 54, 3) := by decide +kernel
theorem dX9_ofSite_59 : decode mX9_ofSite.2.1 59 = .ok (.iload_n 1, 1) := by decide +kernel
theorem dX9_ofSite_60 : decode mX9_ofSite.2.1 60 = .ok (.invokevirtual 232, 3) := by decide +kernel
theorem dX9_ofSite_63 : decode mX9_ofSite.2.1 63 = .ok (.ireturn, 1) := by decide +kernel
theorem dX9_ofRun_0 : decode mX9_ofRun.2.1 0 = .ok (.iload_n 1, 1) := by decide +kernel
theorem dX9_ofRun_1 : decode mX9_ofRun.2.1 1 = .ok (.tableswitch 83 0 4 #[35, 51, 59, 67, 75], 35) := by decide +kernel
theorem dX9_ofRun_36 : decode mX9_ofRun.2.1 36 = .ok (.aload_n 0, 1) := by decide +kernel
theorem dX9_ofRun_37 : decode mX9_ofRun.2.1 37 = .ok (.getfield 72, 3) := by decide +kernel
theorem dX9_ofRun_40 : decode mX9_ofRun.2.1 40 = .ok (.invokevirtual 235, 3) := by decide +kernel
theorem dX9_ofRun_43 : decode mX9_ofRun.2.1 43 = .ok (.ifCond .eq 7, 3) := by decide +kernel
theorem dX9_ofRun_46 : decode mX9_ofRun.2.1 46 = .ok (.iconst 1, 1) := by decide +kernel
theorem dX9_ofRun_47 : decode mX9_ofRun.2.1 47 = .ok (.goto 4, 3) := by decide +kernel
theorem dX9_ofRun_50 : decode mX9_ofRun.2.1 50 = .ok (.iconst 0, 1) := by decide +kernel
theorem dX9_ofRun_51 : decode mX9_ofRun.2.1 51 = .ok (.ireturn, 1) := by decide +kernel
theorem dX9_ofRun_52 : decode mX9_ofRun.2.1 52 = .ok (.aload_n 0, 1) := by decide +kernel
theorem dX9_ofRun_53 : decode mX9_ofRun.2.1 53 = .ok (.getfield 72, 3) := by decide +kernel
theorem dX9_ofRun_56 : decode mX9_ofRun.2.1 56 = .ok (.invokevirtual 238, 3) := by decide +kernel
theorem dX9_ofRun_59 : decode mX9_ofRun.2.1 59 = .ok (.ireturn, 1) := by decide +kernel
theorem dX9_ofRun_60 : decode mX9_ofRun.2.1 60 = .ok (.aload_n 0, 1) := by decide +kernel
theorem dX9_ofRun_61 : decode mX9_ofRun.2.1 61 = .ok (.getfield 72, 3) := by decide +kernel
theorem dX9_ofRun_64 : decode mX9_ofRun.2.1 64 = .ok (.invokevirtual 241, 3) := by decide +kernel
theorem dX9_ofRun_67 : decode mX9_ofRun.2.1 67 = .ok (.ireturn, 1) := by decide +kernel
theorem dX9_ofRun_68 : decode mX9_ofRun.2.1 68 = .ok (.aload_n 0, 1) := by decide +kernel
theorem dX9_ofRun_69 : decode mX9_ofRun.2.1 69 = .ok (.getfield 72, 3) := by decide +kernel
theorem dX9_ofRun_72 : decode mX9_ofRun.2.1 72 = .ok (.invokevirtual 244, 3) := by decide +kernel
theorem dX9_ofRun_75 : decode mX9_ofRun.2.1 75 = .ok (.ireturn, 1) := by decide +kernel
theorem dX9_ofRun_76 : decode mX9_ofRun.2.1 76 = .ok (.aload_n 0, 1) := by decide +kernel
theorem dX9_ofRun_77 : decode mX9_ofRun.2.1 77 = .ok (.getfield 72, 3) := by decide +kernel
theorem dX9_ofRun_80 : decode mX9_ofRun.2.1 80 = .ok (.invokevirtual 247, 3) := by decide +kernel
theorem dX9_ofRun_83 : decode mX9_ofRun.2.1 83 = .ok (.ireturn, 1) := by decide +kernel
theorem dX9_ofRun_84 : decode mX9_ofRun.2.1 84 = .ok (.aload_n 0, 1) := by decide +kernel
theorem dX9_ofRun_85 : decode mX9_ofRun.2.1 85 = .ok (.getfield 72, 3) := by decide +kernel
theorem dX9_ofRun_88 : decode mX9_ofRun.2.1 88 = .ok (.invokevirtual 250, 3) := by decide +kernel
theorem dX9_ofRun_91 : decode mX9_ofRun.2.1 91 = .ok (.ireturn, 1) := by decide +kernel
theorem dX9_ofSiteRun_0 : decode mX9_ofSiteRun.2.1 0 = .ok (.iload_n 2, 1) := by decide +kernel
theorem dX9_ofSiteRun_1 : decode mX9_ofSiteRun.2.1 1 = .ok (.lookupswitch 45 #[(0, 27), (1, 36)], 27) := by decide +kernel
theorem dX9_ofSiteRun_28 : decode mX9_ofSiteRun.2.1 28 = .ok (.aload_n 0, 1) := by decide +kernel
theorem dX9_ofSiteRun_29 : decode mX9_ofSiteRun.2.1 29 = .ok (.getfield 72, 3) := by decide +kernel
theorem dX9_ofSiteRun_32 : decode mX9_ofSiteRun.2.1 32 = .ok (.iload_n 1, 1) := by decide +kernel
theorem dX9_ofSiteRun_33 : decode mX9_ofSiteRun.2.1 33 = .ok (.invokevirtual 253, 3) := by decide +kernel
theorem dX9_ofSiteRun_36 : decode mX9_ofSiteRun.2.1 36 = .ok (.ireturn, 1) := by decide +kernel
theorem dX9_ofSiteRun_37 : decode mX9_ofSiteRun.2.1 37 = .ok (.aload_n 0, 1) := by decide +kernel
theorem dX9_ofSiteRun_38 : decode mX9_ofSiteRun.2.1 38 = .ok (.getfield 72, 3) := by decide +kernel
theorem dX9_ofSiteRun_41 : decode mX9_ofSiteRun.2.1 41 = .ok (.iload_n 1, 1) := by decide +kernel
theorem dX9_ofSiteRun_42 : decode mX9_ofSiteRun.2.1 42 = .ok (.invokevirtual 256, 3) := by decide +kernel
theorem dX9_ofSiteRun_45 : decode mX9_ofSiteRun.2.1 45 = .ok (.ireturn, 1) := by decide +kernel
theorem dX9_ofSiteRun_46 : decode mX9_ofSiteRun.2.1 46 = .ok (.aload_n 0, 1) := by decide +kernel
theorem dX9_ofSiteRun_47 : decode mX9_ofSiteRun.2.1 47 = .ok (.getfield 72, 3) := by decide +kernel
theorem dX9_ofSiteRun_50 : decode mX9_ofSiteRun.2.1 50 = .ok (.iload_n 1, 1) := by decide +kernel
theorem dX9_ofSiteRun_51 : decode mX9_ofSiteRun.2.1 51 = .ok (.invokevirtual 259, 3) := by decide +kernel
theorem dX9_ofSiteRun_54 : decode mX9_ofSiteRun.2.1 54 = .ok (.ireturn, 1) := by decide +kernel
theorem dX9_ofAll_0 : decode mX9_ofAll.2.1 0 = .ok (.iload_n 1, 1) := by decide +kernel
theorem dX9_ofAll_1 : decode mX9_ofAll.2.1 1 = .ok (.tableswitch 78 0 5 #[39, 44, 49, 54, 62, 70], 39) := by decide +kernel
theorem dX9_ofAll_40 : decode mX9_ofAll.2.1 40 = .ok (.aload_n 0, 1) := by decide +kernel
theorem dX9_ofAll_41 : decode mX9_ofAll.2.1 41 = .ok (.getfield 262, 3) := by decide +kernel
theorem dX9_ofAll_44 : decode mX9_ofAll.2.1 44 = .ok (.ireturn, 1) := by decide +kernel
theorem dX9_ofAll_45 : decode mX9_ofAll.2.1 45 = .ok (.aload_n 0, 1) := by decide +kernel
theorem dX9_ofAll_46 : decode mX9_ofAll.2.1 46 = .ok (.getfield 266, 3) := by decide +kernel
theorem dX9_ofAll_49 : decode mX9_ofAll.2.1 49 = .ok (.ireturn, 1) := by decide +kernel
theorem dX9_ofAll_50 : decode mX9_ofAll.2.1 50 = .ok (.aload_n 0, 1) := by decide +kernel
theorem dX9_ofAll_51 : decode mX9_ofAll.2.1 51 = .ok (.getfield 269, 3) := by decide +kernel
theorem dX9_ofAll_54 : decode mX9_ofAll.2.1 54 = .ok (.ireturn, 1) := by decide +kernel
theorem dX9_ofAll_55 : decode mX9_ofAll.2.1 55 = .ok (.aload_n 0, 1) := by decide +kernel
theorem dX9_ofAll_56 : decode mX9_ofAll.2.1 56 = .ok (.getfield 12, 3) := by decide +kernel
theorem dX9_ofAll_59 : decode mX9_ofAll.2.1 59 = .ok (.invokevirtual 95, 3) := by decide +kernel
theorem dX9_ofAll_62 : decode mX9_ofAll.2.1 62 = .ok (.ireturn, 1) := by decide +kernel
theorem dX9_ofAll_63 : decode mX9_ofAll.2.1 63 = .ok (.aload_n 0, 1) := by decide +kernel
theorem dX9_ofAll_64 : decode mX9_ofAll.2.1 64 = .ok (.getfield 19, 3) := by decide +kernel
theorem dX9_ofAll_67 : decode mX9_ofAll.2.1 67 = .ok (.invokevirtual 111, 3) := by decide +kernel
theorem dX9_ofAll_70 : decode mX9_ofAll.2.1 70 = .ok (.ireturn, 1) := by decide +kernel
theorem dX9_ofAll_71 : decode mX9_ofAll.2.1 71 = .ok (.aload_n 0, 1) := by decide +kernel
theorem dX9_ofAll_72 : decode mX9_ofAll.2.1 72 = .ok (.getfield 45, 3) := by decide +kernel
theorem dX9_ofAll_75 : decode mX9_ofAll.2.1 75 = .ok (.invokevirtual 143, 3) := by decide +kernel
theorem dX9_ofAll_78 : decode mX9_ofAll.2.1 78 = .ok (.ireturn, 1) := by decide +kernel
theorem dX9_ofAll_79 : decode mX9_ofAll.2.1 79 = .ok (.aload_n 0, 1) := by decide +kernel
theorem dX9_ofAll_80 : decode mX9_ofAll.2.1 80 = .ok (.getfield 38, 3) := by decide +kernel
theorem dX9_ofAll_83 : decode mX9_ofAll.2.1 83 = .ok (.invokevirtual 171, 3) := by decide +kernel
theorem dX9_ofAll_86 : decode mX9_ofAll.2.1 86 = .ok (.ireturn, 1) := by decide +kernel
theorem dX9_refusedAsBad_0 : decode mX9_refusedAsBad.2.1 0 = .ok (.aload_n 0, 1) := by decide +kernel
theorem dX9_refusedAsBad_1 : decode mX9_refusedAsBad.2.1 1 = .ok (.dup, 1) := by decide +kernel
theorem dX9_refusedAsBad_2 : decode mX9_refusedAsBad.2.1 2 = .ok (.getfield 262, 3) := by decide +kernel
theorem dX9_refusedAsBad_5 : decode mX9_refusedAsBad.2.1 5 = .ok (.iconst 1, 1) := by decide +kernel
theorem dX9_refusedAsBad_6 : decode mX9_refusedAsBad.2.1 6 = .ok (.iadd, 1) := by decide +kernel
theorem dX9_refusedAsBad_7 : decode mX9_refusedAsBad.2.1 7 = .ok (.putfield 262, 3) := by decide +kernel
theorem dX9_refusedAsBad_10 : decode mX9_refusedAsBad.2.1 10 = .ok (.bipush (-2), 2) := by decide +kernel
theorem dX9_refusedAsBad_12 : decode mX9_refusedAsBad.2.1 12 = .ok (.ireturn, 1) := by decide +kernel
theorem dX9_refusedAsNo_0 : decode mX9_refusedAsNo.2.1 0 = .ok (.aload_n 0, 1) := by decide +kernel
theorem dX9_refusedAsNo_1 : decode mX9_refusedAsNo.2.1 1 = .ok (.dup, 1) := by decide +kernel
theorem dX9_refusedAsNo_2 : decode mX9_refusedAsNo.2.1 2 = .ok (.getfield 266, 3) := by decide +kernel
theorem dX9_refusedAsNo_5 : decode mX9_refusedAsNo.2.1 5 = .ok (.iconst 1, 1) := by decide +kernel
theorem dX9_refusedAsNo_6 : decode mX9_refusedAsNo.2.1 6 = .ok (.iadd, 1) := by decide +kernel
theorem dX9_refusedAsNo_7 : decode mX9_refusedAsNo.2.1 7 = .ok (.putfield 266, 3) := by decide +kernel
theorem dX9_refusedAsNo_10 : decode mX9_refusedAsNo.2.1 10 = .ok (.bipush (-3), 2) := by decide +kernel
theorem dX9_refusedAsNo_12 : decode mX9_refusedAsNo.2.1 12 = .ok (.ireturn, 1) := by decide +kernel
theorem dX9_refusedAsFull_0 : decode mX9_refusedAsFull.2.1 0 = .ok (.aload_n 0, 1) := by decide +kernel
theorem dX9_refusedAsFull_1 : decode mX9_refusedAsFull.2.1 1 = .ok (.dup, 1) := by decide +kernel
theorem dX9_refusedAsFull_2 : decode mX9_refusedAsFull.2.1 2 = .ok (.getfield 269, 3) := by decide +kernel
theorem dX9_refusedAsFull_5 : decode mX9_refusedAsFull.2.1 5 = .ok (.iconst 1, 1) := by decide +kernel
theorem dX9_refusedAsFull_6 : decode mX9_refusedAsFull.2.1 6 = .ok (.iadd, 1) := by decide +kernel
theorem dX9_refusedAsFull_7 : decode mX9_refusedAsFull.2.1 7 = .ok (.putfield 269, 3) := by decide +kernel
theorem dX9_refusedAsFull_10 : decode mX9_refusedAsFull.2.1 10 = .ok (.bipush (-4), 2) := by decide +kernel
theorem dX9_refusedAsFull_12 : decode mX9_refusedAsFull.2.1 12 = .ok (.ireturn, 1) := by decide +kernel
theorem dX9_isOutside_0 : decode mX9_isOutside.2.1 0 = .ok (.iload_n 0, 1) := by decide +kernel
theorem dX9_isOutside_1 : decode mX9_isOutside.2.1 1 = .ok (.ifCond .lt 8, 3) := by decide +kernel
theorem dX9_isOutside_4 : decode mX9_isOutside.2.1 4 = .ok (.iload_n 0, 1) := by decide +kernel
theorem dX9_isOutside_5 : decode mX9_isOutside.2.1 5 = .ok (.iload_n 1, 1) := by decide +kernel
theorem dX9_isOutside_6 : decode mX9_isOutside.2.1 6 = .ok (.if_icmp .lt 7, 3) := by decide +kernel
theorem dX9_isOutside_9 : decode mX9_isOutside.2.1 9 = .ok (.iconst 1, 1) := by decide +kernel
theorem dX9_isOutside_10 : decode mX9_isOutside.2.1 10 = .ok (.goto 4, 3) := by decide +kernel
theorem dX9_isOutside_13 : decode mX9_isOutside.2.1 13 = .ok (.iconst 0, 1) := by decide +kernel
theorem dX9_isOutside_14 : decode mX9_isOutside.2.1 14 = .ok (.ireturn, 1) := by decide +kernel
theorem dX9_leaveState_0 : decode mX9_leaveState.2.1 0 = .ok (.aload_n 0, 1) := by decide +kernel
theorem dX9_leaveState_1 : decode mX9_leaveState.2.1 1 = .ok (.getfield 38, 3) := by decide +kernel
theorem dX9_leaveState_4 : decode mX9_leaveState.2.1 4 = .ok (.aload_n 0, 1) := by decide +kernel
theorem dX9_leaveState_5 : decode mX9_leaveState.2.1 5 = .ok (.getfield 19, 3) := by decide +kernel
theorem dX9_leaveState_8 : decode mX9_leaveState.2.1 8 = .ok (.invokevirtual 272, 3) := by decide +kernel
theorem dX9_leaveState_11 : decode mX9_leaveState.2.1 11 = .ok (.aload_n 0, 1) := by decide +kernel
theorem dX9_leaveState_12 : decode mX9_leaveState.2.1 12 = .ok (.invokevirtual 178, 3) := by decide +kernel
theorem dX9_leaveState_15 : decode mX9_leaveState.2.1 15 = .ok (.return_, 1) := by decide +kernel
theorem dX9_forgetFindings_0 : decode mX9_forgetFindings.2.1 0 = .ok (.aload_n 0, 1) := by decide +kernel
theorem dX9_forgetFindings_1 : decode mX9_forgetFindings.2.1 1 = .ok (.iconst 0, 1) := by decide +kernel
theorem dX9_forgetFindings_2 : decode mX9_forgetFindings.2.1 2 = .ok (.putfield 275, 3) := by decide +kernel
theorem dX9_forgetFindings_5 : decode mX9_forgetFindings.2.1 5 = .ok (.aload_n 0, 1) := by decide +kernel
theorem dX9_forgetFindings_6 : decode mX9_forgetFindings.2.1 6 = .ok (.iconst 0, 1) := by decide +kernel
theorem dX9_forgetFindings_7 : decode mX9_forgetFindings.2.1 7 = .ok (.putfield 279, 3) := by decide +kernel
theorem dX9_forgetFindings_10 : decode mX9_forgetFindings.2.1 10 = .ok (.return_, 1) := by decide +kernel
theorem dX9_findMays_0 : decode mX9_findMays.2.1 0 = .ok (.aload_n 0, 1) := by decide +kernel
theorem dX9_findMays_1 : decode mX9_findMays.2.1 1 = .ok (.getfield 275, 3) := by decide +kernel
theorem dX9_findMays_4 : decode mX9_findMays.2.1 4 = .ok (.ifCond .ne 33, 3) := by decide +kernel
theorem dX9_findMays_7 : decode mX9_findMays.2.1 7 = .ok (.aload_n 0, 1) := by decide +kernel
theorem dX9_findMays_8 : decode mX9_findMays.2.1 8 = .ok (.getfield 45, 3) := by decide +kernel
theorem dX9_findMays_11 : decode mX9_findMays.2.1 11 = .ok (.aload_n 0, 1) := by decide +kernel
theorem dX9_findMays_12 : decode mX9_findMays.2.1 12 = .ok (.getfield 19, 3) := by decide +kernel
theorem dX9_findMays_15 : decode mX9_findMays.2.1 15 = .ok (.invokevirtual 282, 3) := by decide +kernel
theorem dX9_findMays_18 : decode mX9_findMays.2.1 18 = .ok (.aload_n 0, 1) := by decide +kernel
theorem dX9_findMays_19 : decode mX9_findMays.2.1 19 = .ok (.getfield 54, 3) := by decide +kernel
theorem dX9_findMays_22 : decode mX9_findMays.2.1 22 = .ok (.invokevirtual 285, 3) := by decide +kernel
theorem dX9_findMays_25 : decode mX9_findMays.2.1 25 = .ok (.aload_n 0, 1) := by decide +kernel
theorem dX9_findMays_26 : decode mX9_findMays.2.1 26 = .ok (.getfield 63, 3) := by decide +kernel
theorem dX9_findMays_29 : decode mX9_findMays.2.1 29 = .ok (.invokevirtual 288, 3) := by decide +kernel
theorem dX9_findMays_32 : decode mX9_findMays.2.1 32 = .ok (.aload_n 0, 1) := by decide +kernel
theorem dX9_findMays_33 : decode mX9_findMays.2.1 33 = .ok (.iconst 1, 1) := by decide +kernel
theorem dX9_findMays_34 : decode mX9_findMays.2.1 34 = .ok (.putfield 275, 3) := by decide +kernel
theorem dX9_findMays_37 : decode mX9_findMays.2.1 37 = .ok (.return_, 1) := by decide +kernel
theorem dX9_findRun_0 : decode mX9_findRun.2.1 0 = .ok (.aload_n 0, 1) := by decide +kernel
theorem dX9_findRun_1 : decode mX9_findRun.2.1 1 = .ok (.invokevirtual 132, 3) := by decide +kernel
theorem dX9_findRun_4 : decode mX9_findRun.2.1 4 = .ok (.aload_n 0, 1) := by decide +kernel
theorem dX9_findRun_5 : decode mX9_findRun.2.1 5 = .ok (.getfield 279, 3) := by decide +kernel
theorem dX9_findRun_8 : decode mX9_findRun.2.1 8 = .ok (.ifCond .ne 15, 3) := by decide +kernel
theorem dX9_findRun_11 : decode mX9_findRun.2.1 11 = .ok (.aload_n 0, 1) := by decide +kernel
theorem dX9_findRun_12 : decode mX9_findRun.2.1 12 = .ok (.getfield 72, 3) := by decide +kernel
theorem dX9_findRun_15 : decode mX9_findRun.2.1 15 = .ok (.invokevirtual 289, 3) := by decide +kernel
theorem dX9_findRun_18 : decode mX9_findRun.2.1 18 = .ok (.aload_n 0, 1) := by decide +kernel
theorem dX9_findRun_19 : decode mX9_findRun.2.1 19 = .ok (.iconst 1, 1) := by decide +kernel
theorem dX9_findRun_20 : decode mX9_findRun.2.1 20 = .ok (.putfield 279, 3) := by decide +kernel
theorem dX9_findRun_23 : decode mX9_findRun.2.1 23 = .ok (.return_, 1) := by decide +kernel
theorem dJ0_length_8abf5_0 : decode mJ0_length_8abf5.2.1 0 = .ok (.aload_n 0, 1) := by decide +kernel
theorem dJ0_length_8abf5_1 : decode mJ0_length_8abf5.2.1 1 = .ok (.getfield 9, 3) := by decide +kernel
theorem dJ0_length_8abf5_4 : decode mJ0_length_8abf5.2.1 4 = .ok (.arraylength, 1) := by decide +kernel
theorem dJ0_length_8abf5_5 : decode mJ0_length_8abf5.2.1 5 = .ok (.aload_n 0, 1) := by decide +kernel
theorem dJ0_length_8abf5_6 : decode mJ0_length_8abf5.2.1 6 = .ok (.invokevirtual 335, 3) := by decide +kernel
theorem dJ0_length_8abf5_9 : decode mJ0_length_8abf5.2.1 9 = .ok (.ishr, 1) := by decide +kernel
theorem dJ0_length_8abf5_10 : decode mJ0_length_8abf5.2.1 10 = .ok (.ireturn, 1) := by decide +kernel
theorem dJ0_charAt_5068e_0 : decode mJ0_charAt_5068e.2.1 0 = .ok (.aload_n 0, 1) := by decide +kernel
theorem dJ0_charAt_5068e_1 : decode mJ0_charAt_5068e.2.1 1 = .ok (.invokevirtual 492, 3) := by decide +kernel
theorem dJ0_charAt_5068e_4 : decode mJ0_charAt_5068e.2.1 4 = .ok (.ifCond .eq 12, 3) := by decide +kernel
theorem dJ0_charAt_5068e_7 : decode mJ0_charAt_5068e.2.1 7 = .ok (.aload_n 0, 1) := by decide +kernel
theorem dJ0_charAt_5068e_8 : decode mJ0_charAt_5068e.2.1 8 = .ok (.getfield 9, 3) := by decide +kernel
theorem dJ0_charAt_5068e_11 : decode mJ0_charAt_5068e.2.1 11 = .ok (.iload_n 1, 1) := by decide +kernel
theorem dJ0_charAt_5068e_12 : decode mJ0_charAt_5068e.2.1 12 = .ok (.invokestatic 495, 3) := by decide +kernel
theorem dJ0_charAt_5068e_15 : decode mJ0_charAt_5068e.2.1 15 = .ok (.ireturn, 1) := by decide +kernel
theorem dJ0_charAt_5068e_16 : decode mJ0_charAt_5068e.2.1 16 = .ok (.aload_n 0, 1) := by decide +kernel
theorem dJ0_charAt_5068e_17 : decode mJ0_charAt_5068e.2.1 17 = .ok (.getfield 9, 3) := by decide +kernel
theorem dJ0_charAt_5068e_20 : decode mJ0_charAt_5068e.2.1 20 = .ok (.iload_n 1, 1) := by decide +kernel
theorem dJ0_charAt_5068e_21 : decode mJ0_charAt_5068e.2.1 21 = .ok (.invokestatic 498, 3) := by decide +kernel
theorem dJ0_charAt_5068e_24 : decode mJ0_charAt_5068e.2.1 24 = .ok (.ireturn, 1) := by decide +kernel
theorem dJ0_coder_7d493_0 : decode mJ0_coder_7d493.2.1 0 = .ok (.getstatic 38, 3) := by decide +kernel
theorem dJ0_coder_7d493_3 : decode mJ0_coder_7d493.2.1 3 = .ok (.ifCond .eq 10, 3) := by decide +kernel
theorem dJ0_coder_7d493_6 : decode mJ0_coder_7d493.2.1 6 = .ok (.aload_n 0, 1) := by decide +kernel
theorem dJ0_coder_7d493_7 : decode mJ0_coder_7d493.2.1 7 = .ok (.getfield 15, 3) := by decide +kernel
theorem dJ0_coder_7d493_10 : decode mJ0_coder_7d493.2.1 10 = .ok (.goto 4, 3) := by decide +kernel
theorem dJ0_coder_7d493_13 : decode mJ0_coder_7d493.2.1 13 = .ok (.iconst 1, 1) := by decide +kernel
theorem dJ0_coder_7d493_14 : decode mJ0_coder_7d493.2.1 14 = .ok (.ireturn, 1) := by decide +kernel
theorem dJ0_isLatin1_aae02_0 : decode mJ0_isLatin1_aae02.2.1 0 = .ok (.getstatic 38, 3) := by decide +kernel
theorem dJ0_isLatin1_aae02_3 : decode mJ0_isLatin1_aae02.2.1 3 = .ok (.ifCond .eq 14, 3) := by decide +kernel
theorem dJ0_isLatin1_aae02_6 : decode mJ0_isLatin1_aae02.2.1 6 = .ok (.aload_n 0, 1) := by decide +kernel
theorem dJ0_isLatin1_aae02_7 : decode mJ0_isLatin1_aae02.2.1 7 = .ok (.getfield 15, 3) := by decide +kernel
theorem dJ0_isLatin1_aae02_10 : decode mJ0_isLatin1_aae02.2.1 10 = .ok (.ifCond .ne 7, 3) := by decide +kernel
theorem dJ0_isLatin1_aae02_13 : decode mJ0_isLatin1_aae02.2.1 13 = .ok (.iconst 1, 1) := by decide +kernel
theorem dJ0_isLatin1_aae02_14 : decode mJ0_isLatin1_aae02.2.1 14 = .ok (.goto 4, 3) := by decide +kernel
theorem dJ0_isLatin1_aae02_17 : decode mJ0_isLatin1_aae02.2.1 17 = .ok (.iconst 0, 1) := by decide +kernel
theorem dJ0_isLatin1_aae02_18 : decode mJ0_isLatin1_aae02.2.1 18 = .ok (.ireturn, 1) := by decide +kernel
theorem dJ0_checkIndex_df160_0 : decode mJ0_checkIndex_df160.2.1 0 = .ok (.iload_n 0, 1) := by decide +kernel
theorem dJ0_checkIndex_df160_1 : decode mJ0_checkIndex_df160.2.1 1 = .ok (.iload_n 1, 1) := by decide +kernel
theorem dJ0_checkIndex_df160_2 : decode mJ0_checkIndex_df160.2.1 2 = .ok (.getstatic 1053, 3) := by decide +kernel
theorem dJ0_checkIndex_df160_5 : decode mJ0_checkIndex_df160.2.1 5 = .ok (.invokestatic 1059, 3) := by decide +kernel
theorem dJ0_checkIndex_df160_8 : decode mJ0_checkIndex_df160.2.1 8 = .ok (.pop, 1) := by decide +kernel
theorem dJ0_checkIndex_df160_9 : decode mJ0_checkIndex_df160.2.1 9 = .ok (.return_, 1) := by decide +kernel
theorem dJ1_charAt_3b067_0 : decode mJ1_charAt_3b067.2.1 0 = .ok (.iload_n 1, 1) := by decide +kernel
theorem dJ1_charAt_3b067_1 : decode mJ1_charAt_3b067.2.1 1 = .ok (.aload_n 0, 1) := by decide +kernel
theorem dJ1_charAt_3b067_2 : decode mJ1_charAt_3b067.2.1 2 = .ok (.arraylength, 1) := by decide +kernel
theorem dJ1_charAt_3b067_3 : decode mJ1_charAt_3b067.2.1 3 = .ok (.invokestatic 9, 3) := by decide +kernel
theorem dJ1_charAt_3b067_6 : decode mJ1_charAt_3b067.2.1 6 = .ok (.aload_n 0, 1) := by decide +kernel
theorem dJ1_charAt_3b067_7 : decode mJ1_charAt_3b067.2.1 7 = .ok (.iload_n 1, 1) := by decide +kernel
theorem dJ1_charAt_3b067_8 : decode mJ1_charAt_3b067.2.1 8 = .ok (.baload, 1) := by decide +kernel
theorem dJ1_charAt_3b067_9 : decode mJ1_charAt_3b067.2.1 9 = .ok (.sipush 255, 3) := by decide +kernel
theorem dJ1_charAt_3b067_12 : decode mJ1_charAt_3b067.2.1 12 = .ok (.iand, 1) := by decide +kernel
theorem dJ1_charAt_3b067_13 : decode mJ1_charAt_3b067.2.1 13 = .ok (.i2c, 1) := by decide +kernel
theorem dJ1_charAt_3b067_14 : decode mJ1_charAt_3b067.2.1 14 = .ok (.ireturn, 1) := by decide +kernel
theorem dJ7_fill_53178_0 : decode mJ7_fill_53178.2.1 0 = .ok (.iconst 0, 1) := by decide +kernel
theorem dJ7_fill_53178_1 : decode mJ7_fill_53178.2.1 1 = .ok (.istore_n 2, 1) := by decide +kernel
theorem dJ7_fill_53178_2 : decode mJ7_fill_53178.2.1 2 = .ok (.aload_n 0, 1) := by decide +kernel
theorem dJ7_fill_53178_3 : decode mJ7_fill_53178.2.1 3 = .ok (.arraylength, 1) := by decide +kernel
theorem dJ7_fill_53178_4 : decode mJ7_fill_53178.2.1 4 = .ok (.istore_n 3, 1) := by decide +kernel
theorem dJ7_fill_53178_5 : decode mJ7_fill_53178.2.1 5 = .ok (.iload_n 2, 1) := by decide +kernel
theorem dJ7_fill_53178_6 : decode mJ7_fill_53178.2.1 6 = .ok (.iload_n 3, 1) := by decide +kernel
theorem dJ7_fill_53178_7 : decode mJ7_fill_53178.2.1 7 = .ok (.if_icmp .ge 13, 3) := by decide +kernel
theorem dJ7_fill_53178_10 : decode mJ7_fill_53178.2.1 10 = .ok (.aload_n 0, 1) := by decide +kernel
theorem dJ7_fill_53178_11 : decode mJ7_fill_53178.2.1 11 = .ok (.iload_n 2, 1) := by decide +kernel
theorem dJ7_fill_53178_12 : decode mJ7_fill_53178.2.1 12 = .ok (.iload_n 1, 1) := by decide +kernel
theorem dJ7_fill_53178_13 : decode mJ7_fill_53178.2.1 13 = .ok (.iastore, 1) := by decide +kernel
theorem dJ7_fill_53178_14 : decode mJ7_fill_53178.2.1 14 = .ok (.iinc 2 1, 3) := by decide +kernel
theorem dJ7_fill_53178_17 : decode mJ7_fill_53178.2.1 17 = .ok (.goto (-12), 3) := by decide +kernel
theorem dJ7_fill_53178_20 : decode mJ7_fill_53178.2.1 20 = .ok (.return_, 1) := by decide +kernel
theorem dJ7_copyOf_59c91_0 : decode mJ7_copyOf_59c91.2.1 0 = .ok (.iload_n 1, 1) := by decide +kernel
theorem dJ7_copyOf_59c91_1 : decode mJ7_copyOf_59c91.2.1 1 = .ok (.aload_n 0, 1) := by decide +kernel
theorem dJ7_copyOf_59c91_2 : decode mJ7_copyOf_59c91.2.1 2 = .ok (.arraylength, 1) := by decide +kernel
theorem dJ7_copyOf_59c91_3 : decode mJ7_copyOf_59c91.2.1 3 = .ok (.if_icmp .ne 11, 3) := by decide +kernel
theorem dJ7_copyOf_59c91_6 : decode mJ7_copyOf_59c91.2.1 6 = .ok (.aload_n 0, 1) := by decide +kernel
theorem dJ7_copyOf_59c91_7 : decode mJ7_copyOf_59c91.2.1 7 = .ok (.invokevirtual 316, 3) := by decide +kernel
theorem dJ7_copyOf_59c91_10 : decode mJ7_copyOf_59c91.2.1 10 = .ok (.checkcast 317, 3) := by decide +kernel
theorem dJ7_copyOf_59c91_13 : decode mJ7_copyOf_59c91.2.1 13 = .ok (.areturn, 1) := by decide +kernel
theorem dJ7_copyOf_59c91_14 : decode mJ7_copyOf_59c91.2.1 14 = .ok (.iload_n 1, 1) := by decide +kernel
theorem dJ7_copyOf_59c91_15 : decode mJ7_copyOf_59c91.2.1 15 = .ok (.newarray .int, 2) := by decide +kernel
theorem dJ7_copyOf_59c91_17 : decode mJ7_copyOf_59c91.2.1 17 = .ok (.astore_n 2, 1) := by decide +kernel
theorem dJ7_copyOf_59c91_18 : decode mJ7_copyOf_59c91.2.1 18 = .ok (.aload_n 0, 1) := by decide +kernel
theorem dJ7_copyOf_59c91_19 : decode mJ7_copyOf_59c91.2.1 19 = .ok (.iconst 0, 1) := by decide +kernel
theorem dJ7_copyOf_59c91_20 : decode mJ7_copyOf_59c91.2.1 20 = .ok (.aload_n 2, 1) := by decide +kernel
theorem dJ7_copyOf_59c91_21 : decode mJ7_copyOf_59c91.2.1 21 = .ok (.iconst 0, 1) := by decide +kernel
theorem dJ7_copyOf_59c91_22 : decode mJ7_copyOf_59c91.2.1 22 = .ok (.aload_n 0, 1) := by decide +kernel
theorem dJ7_copyOf_59c91_23 : decode mJ7_copyOf_59c91.2.1 23 = .ok (.arraylength, 1) := by decide +kernel
theorem dJ7_copyOf_59c91_24 : decode mJ7_copyOf_59c91.2.1 24 = .ok (.iload_n 1, 1) := by decide +kernel
theorem dJ7_copyOf_59c91_25 : decode mJ7_copyOf_59c91.2.1 25 = .ok (.invokestatic 304, 3) := by decide +kernel
theorem dJ7_copyOf_59c91_28 : decode mJ7_copyOf_59c91.2.1 28 = .ok (.invokestatic 150, 3) := by decide +kernel
theorem dJ7_copyOf_59c91_31 : decode mJ7_copyOf_59c91.2.1 31 = .ok (.aload_n 2, 1) := by decide +kernel
theorem dJ7_copyOf_59c91_32 : decode mJ7_copyOf_59c91.2.1 32 = .ok (.areturn, 1) := by decide +kernel
theorem dJ3_checkIndex_8e157_0 : decode mJ3_checkIndex_8e157.2.1 0 = .ok (.iload_n 0, 1) := by decide +kernel
theorem dJ3_checkIndex_8e157_1 : decode mJ3_checkIndex_8e157.2.1 1 = .ok (.ifCond .lt 8, 3) := by decide +kernel
theorem dJ3_checkIndex_8e157_4 : decode mJ3_checkIndex_8e157.2.1 4 = .ok (.iload_n 0, 1) := by decide +kernel
theorem dJ3_checkIndex_8e157_5 : decode mJ3_checkIndex_8e157.2.1 5 = .ok (.iload_n 1, 1) := by decide +kernel
theorem dJ3_checkIndex_8e157_6 : decode mJ3_checkIndex_8e157.2.1 6 = .ok (.if_icmp .lt 10, 3) := by decide +kernel
theorem dJ3_checkIndex_8e157_9 : decode mJ3_checkIndex_8e157.2.1 9 = .ok (.aload_n 2, 1) := by decide +kernel
theorem dJ3_checkIndex_8e157_10 : decode mJ3_checkIndex_8e157.2.1 10 = .ok (.iload_n 0, 1) := by decide +kernel
theorem dJ3_checkIndex_8e157_11 : decode mJ3_checkIndex_8e157.2.1 11 = .ok (.iload_n 1, 1) := by decide +kernel
theorem dJ3_checkIndex_8e157_12 : decode mJ3_checkIndex_8e157.2.1 12 = .ok (.invokestatic 95, 3) := by decide +kernel
theorem dJ3_checkIndex_8e157_15 : decode mJ3_checkIndex_8e157.2.1 15 = .ok (.athrow, 1) := by decide +kernel
theorem dJ3_checkIndex_8e157_16 : decode mJ3_checkIndex_8e157.2.1 16 = .ok (.iload_n 0, 1) := by decide +kernel
theorem dJ3_checkIndex_8e157_17 : decode mJ3_checkIndex_8e157.2.1 17 = .ok (.ireturn, 1) := by decide +kernel
theorem dL_law_0 : decode mL_law.2.1 0 = .ok (.new 7, 3) := by decide +kernel
theorem dL_law_3 : decode mL_law.2.1 3 = .ok (.dup, 1) := by decide +kernel
theorem dL_law_4 : decode mL_law.2.1 4 = .ok (.invokespecial 9, 3) := by decide +kernel
theorem dL_law_7 : decode mL_law.2.1 7 = .ok (.astore_n 1, 1) := by decide +kernel
theorem dL_law_8 : decode mL_law.2.1 8 = .ok (.new 10, 3) := by decide +kernel
theorem dL_law_11 : decode mL_law.2.1 11 = .ok (.dup, 1) := by decide +kernel
theorem dL_law_12 : decode mL_law.2.1 12 = .ok (.invokespecial 12, 3) := by decide +kernel
theorem dL_law_15 : decode mL_law.2.1 15 = .ok (.astore_n 2, 1) := by decide +kernel
theorem dL_law_16 : decode mL_law.2.1 16 = .ok (.iconst 0, 1) := by decide +kernel
theorem dL_law_17 : decode mL_law.2.1 17 = .ok (.istore_n 3, 1) := by decide +kernel
theorem dL_law_18 : decode mL_law.2.1 18 = .ok (.iload_n 3, 1) := by decide +kernel
theorem dL_law_19 : decode mL_law.2.1 19 = .ok (.aload_n 0, 1) := by decide +kernel
theorem dL_law_20 : decode mL_law.2.1 20 = .ok (.arraylength, 1) := by decide +kernel
theorem dL_law_21 : decode mL_law.2.1 21 = .ok (.iconst 4, 1) := by decide +kernel
theorem dL_law_22 : decode mL_law.2.1 22 = .ok (.isub, 1) := by decide +kernel
theorem dL_law_23 : decode mL_law.2.1 23 = .ok (.if_icmp .gt 548, 3) := by decide +kernel
theorem dL_law_26 : decode mL_law.2.1 26 = .ok (.aload_n 0, 1) := by decide +kernel
theorem dL_law_27 : decode mL_law.2.1 27 = .ok (.iload_n 3, 1) := by decide +kernel
theorem dL_law_28 : decode mL_law.2.1 28 = .ok (.iaload, 1) := by decide +kernel
theorem dL_law_29 : decode mL_law.2.1 29 = .ok (.bipush 31, 2) := by decide +kernel
theorem dL_law_31 : decode mL_law.2.1 31 = .ok (.iand, 1) := by decide +kernel
theorem dL_law_32 : decode mL_law.2.1 32 = .ok (.tableswitch 533 0 17 #[88, 111, 124, 137, 170, 203, 236, 279, 312, 345, 358, 391, 414, 437, 470, 483, 496, 519], 88) := by decide +kernel
theorem dL_law_120 : decode mL_law.2.1 120 = .ok (.aload_n 1, 1) := by decide +kernel
theorem dL_law_121 : decode mL_law.2.1 121 = .ok (.aload_n 0, 1) := by decide +kernel
theorem dL_law_122 : decode mL_law.2.1 122 = .ok (.iload_n 3, 1) := by decide +kernel
theorem dL_law_123 : decode mL_law.2.1 123 = .ok (.iconst 1, 1) := by decide +kernel
theorem dL_law_124 : decode mL_law.2.1 124 = .ok (.iadd, 1) := by decide +kernel
theorem dL_law_125 : decode mL_law.2.1 125 = .ok (.iaload, 1) := by decide +kernel
theorem dL_law_126 : decode mL_law.2.1 126 = .ok (.invokevirtual 13, 3) := by decide +kernel
theorem dL_law_129 : decode mL_law.2.1 129 = .ok (.aload_n 2, 1) := by decide +kernel
theorem dL_law_130 : decode mL_law.2.1 130 = .ok (.aload_n 0, 1) := by decide +kernel
theorem dL_law_131 : decode mL_law.2.1 131 = .ok (.iload_n 3, 1) := by decide +kernel
theorem dL_law_132 : decode mL_law.2.1 132 = .ok (.iconst 1, 1) := by decide +kernel
theorem dL_law_133 : decode mL_law.2.1 133 = .ok (.iadd, 1) := by decide +kernel
theorem dL_law_134 : decode mL_law.2.1 134 = .ok (.iaload, 1) := by decide +kernel
theorem dL_law_135 : decode mL_law.2.1 135 = .ok (.invokevirtual 17, 3) := by decide +kernel
theorem dL_law_138 : decode mL_law.2.1 138 = .ok (.if_icmp .eq 427, 3) := by decide +kernel
theorem dL_law_141 : decode mL_law.2.1 141 = .ok (.iconst 0, 1) := by decide +kernel
theorem dL_law_142 : decode mL_law.2.1 142 = .ok (.ireturn, 1) := by decide +kernel
theorem dL_law_143 : decode mL_law.2.1 143 = .ok (.aload_n 1, 1) := by decide +kernel
theorem dL_law_144 : decode mL_law.2.1 144 = .ok (.invokevirtual 18, 3) := by decide +kernel
theorem dL_law_147 : decode mL_law.2.1 147 = .ok (.aload_n 2, 1) := by decide +kernel
theorem dL_law_148 : decode mL_law.2.1 148 = .ok (.invokevirtual 22, 3) := by decide +kernel
theorem dL_law_151 : decode mL_law.2.1 151 = .ok (.if_icmp .eq 414, 3) := by decide +kernel
theorem dL_law_154 : decode mL_law.2.1 154 = .ok (.iconst 0, 1) := by decide +kernel
theorem dL_law_155 : decode mL_law.2.1 155 = .ok (.ireturn, 1) := by decide +kernel
theorem dL_law_156 : decode mL_law.2.1 156 = .ok (.aload_n 1, 1) := by decide +kernel
theorem dL_law_157 : decode mL_law.2.1 157 = .ok (.invokevirtual 23, 3) := by decide +kernel
theorem dL_law_160 : decode mL_law.2.1 160 = .ok (.aload_n 2, 1) := by decide +kernel
theorem dL_law_161 : decode mL_law.2.1 161 = .ok (.invokevirtual 26, 3) := by decide +kernel
theorem dL_law_164 : decode mL_law.2.1 164 = .ok (.if_icmp .eq 401, 3) := by decide +kernel
theorem dL_law_167 : decode mL_law.2.1 167 = .ok (.iconst 0, 1) := by decide +kernel
theorem dL_law_168 : decode mL_law.2.1 168 = .ok (.ireturn, 1) := by decide +kernel
theorem dL_law_169 : decode mL_law.2.1 169 = .ok (.aload_n 1, 1) := by decide +kernel
theorem dL_law_170 : decode mL_law.2.1 170 = .ok (.aload_n 0, 1) := by decide +kernel
theorem dL_law_171 : decode mL_law.2.1 171 = .ok (.iload_n 3, 1) := by decide +kernel
theorem dL_law_172 : decode mL_law.2.1 172 = .ok (.iconst 1, 1) := by decide +kernel
theorem dL_law_173 : decode mL_law.2.1 173 = .ok (.iadd, 1) := by decide +kernel
theorem dL_law_174 : decode mL_law.2.1 174 = .ok (.iaload, 1) := by decide +kernel
theorem dL_law_175 : decode mL_law.2.1 175 = .ok (.aload_n 0, 1) := by decide +kernel
theorem dL_law_176 : decode mL_law.2.1 176 = .ok (.iload_n 3, 1) := by decide +kernel
theorem dL_law_177 : decode mL_law.2.1 177 = .ok (.iconst 2, 1) := by decide +kernel
theorem dL_law_178 : decode mL_law.2.1 178 = .ok (.iadd, 1) := by decide +kernel
theorem dL_law_179 : decode mL_law.2.1 179 = .ok (.iaload, 1) := by decide +kernel
theorem dL_law_180 : decode mL_law.2.1 180 = .ok (.invokevirtual 27, 3) := by decide +kernel
theorem dL_law_183 : decode mL_law.2.1 183 = .ok (.aload_n 2, 1) := by decide +kernel
theorem dL_law_184 : decode mL_law.2.1 184 = .ok (.aload_n 0, 1) := by decide +kernel
theorem dL_law_185 : decode mL_law.2.1 185 = .ok (.iload_n 3, 1) := by decide +kernel
theorem dL_law_186 : decode mL_law.2.1 186 = .ok (.iconst 1, 1) := by decide +kernel
theorem dL_law_187 : decode mL_law.2.1 187 = .ok (.iadd, 1) := by decide +kernel
theorem dL_law_188 : decode mL_law.2.1 188 = .ok (.iaload, 1) := by decide +kernel
theorem dL_law_189 : decode mL_law.2.1 189 = .ok (.aload_n 0, 1) := by decide +kernel
theorem dL_law_190 : decode mL_law.2.1 190 = .ok (.iload_n 3, 1) := by decide +kernel
theorem dL_law_191 : decode mL_law.2.1 191 = .ok (.iconst 2, 1) := by decide +kernel
theorem dL_law_192 : decode mL_law.2.1 192 = .ok (.iadd, 1) := by decide +kernel
theorem dL_law_193 : decode mL_law.2.1 193 = .ok (.iaload, 1) := by decide +kernel
theorem dL_law_194 : decode mL_law.2.1 194 = .ok (.invokevirtual 31, 3) := by decide +kernel
theorem dL_law_197 : decode mL_law.2.1 197 = .ok (.if_icmp .eq 368, 3) := by decide +kernel
theorem dL_law_200 : decode mL_law.2.1 200 = .ok (.iconst 0, 1) := by decide +kernel
theorem dL_law_201 : decode mL_law.2.1 201 = .ok (.ireturn, 1) := by decide +kernel
theorem dL_law_202 : decode mL_law.2.1 202 = .ok (.aload_n 1, 1) := by decide +kernel
theorem dL_law_203 : decode mL_law.2.1 203 = .ok (.aload_n 0, 1) := by decide +kernel
theorem dL_law_204 : decode mL_law.2.1 204 = .ok (.iload_n 3, 1) := by decide +kernel
theorem dL_law_205 : decode mL_law.2.1 205 = .ok (.iconst 1, 1) := by decide +kernel
theorem dL_law_206 : decode mL_law.2.1 206 = .ok (.iadd, 1) := by decide +kernel
theorem dL_law_207 : decode mL_law.2.1 207 = .ok (.iaload, 1) := by decide +kernel
theorem dL_law_208 : decode mL_law.2.1 208 = .ok (.aload_n 0, 1) := by decide +kernel
theorem dL_law_209 : decode mL_law.2.1 209 = .ok (.iload_n 3, 1) := by decide +kernel
theorem dL_law_210 : decode mL_law.2.1 210 = .ok (.iconst 2, 1) := by decide +kernel
theorem dL_law_211 : decode mL_law.2.1 211 = .ok (.iadd, 1) := by decide +kernel
theorem dL_law_212 : decode mL_law.2.1 212 = .ok (.iaload, 1) := by decide +kernel
theorem dL_law_213 : decode mL_law.2.1 213 = .ok (.invokevirtual 32, 3) := by decide +kernel
theorem dL_law_216 : decode mL_law.2.1 216 = .ok (.aload_n 2, 1) := by decide +kernel
theorem dL_law_217 : decode mL_law.2.1 217 = .ok (.aload_n 0, 1) := by decide +kernel
theorem dL_law_218 : decode mL_law.2.1 218 = .ok (.iload_n 3, 1) := by decide +kernel
theorem dL_law_219 : decode mL_law.2.1 219 = .ok (.iconst 1, 1) := by decide +kernel
theorem dL_law_220 : decode mL_law.2.1 220 = .ok (.iadd, 1) := by decide +kernel
theorem dL_law_221 : decode mL_law.2.1 221 = .ok (.iaload, 1) := by decide +kernel
theorem dL_law_222 : decode mL_law.2.1 222 = .ok (.aload_n 0, 1) := by decide +kernel
theorem dL_law_223 : decode mL_law.2.1 223 = .ok (.iload_n 3, 1) := by decide +kernel
theorem dL_law_224 : decode mL_law.2.1 224 = .ok (.iconst 2, 1) := by decide +kernel
theorem dL_law_225 : decode mL_law.2.1 225 = .ok (.iadd, 1) := by decide +kernel
theorem dL_law_226 : decode mL_law.2.1 226 = .ok (.iaload, 1) := by decide +kernel
theorem dL_law_227 : decode mL_law.2.1 227 = .ok (.invokevirtual 35, 3) := by decide +kernel
theorem dL_law_230 : decode mL_law.2.1 230 = .ok (.if_icmp .eq 335, 3) := by decide +kernel
theorem dL_law_233 : decode mL_law.2.1 233 = .ok (.iconst 0, 1) := by decide +kernel
theorem dL_law_234 : decode mL_law.2.1 234 = .ok (.ireturn, 1) := by decide +kernel
theorem dL_law_235 : decode mL_law.2.1 235 = .ok (.aload_n 1, 1) := by decide +kernel
theorem dL_law_236 : decode mL_law.2.1 236 = .ok (.aload_n 0, 1) := by decide +kernel
theorem dL_law_237 : decode mL_law.2.1 237 = .ok (.iload_n 3, 1) := by decide +kernel
theorem dL_law_238 : decode mL_law.2.1 238 = .ok (.iconst 1, 1) := by decide +kernel
theorem dL_law_239 : decode mL_law.2.1 239 = .ok (.iadd, 1) := by decide +kernel
theorem dL_law_240 : decode mL_law.2.1 240 = .ok (.iaload, 1) := by decide +kernel
theorem dL_law_241 : decode mL_law.2.1 241 = .ok (.aload_n 0, 1) := by decide +kernel
theorem dL_law_242 : decode mL_law.2.1 242 = .ok (.iload_n 3, 1) := by decide +kernel
theorem dL_law_243 : decode mL_law.2.1 243 = .ok (.iconst 2, 1) := by decide +kernel
theorem dL_law_244 : decode mL_law.2.1 244 = .ok (.iadd, 1) := by decide +kernel
theorem dL_law_245 : decode mL_law.2.1 245 = .ok (.iaload, 1) := by decide +kernel
theorem dL_law_246 : decode mL_law.2.1 246 = .ok (.invokevirtual 36, 3) := by decide +kernel
theorem dL_law_249 : decode mL_law.2.1 249 = .ok (.aload_n 2, 1) := by decide +kernel
theorem dL_law_250 : decode mL_law.2.1 250 = .ok (.aload_n 0, 1) := by decide +kernel
theorem dL_law_251 : decode mL_law.2.1 251 = .ok (.iload_n 3, 1) := by decide +kernel
theorem dL_law_252 : decode mL_law.2.1 252 = .ok (.iconst 1, 1) := by decide +kernel
theorem dL_law_253 : decode mL_law.2.1 253 = .ok (.iadd, 1) := by decide +kernel
theorem dL_law_254 : decode mL_law.2.1 254 = .ok (.iaload, 1) := by decide +kernel
theorem dL_law_255 : decode mL_law.2.1 255 = .ok (.aload_n 0, 1) := by decide +kernel
theorem dL_law_256 : decode mL_law.2.1 256 = .ok (.iload_n 3, 1) := by decide +kernel
theorem dL_law_257 : decode mL_law.2.1 257 = .ok (.iconst 2, 1) := by decide +kernel
theorem dL_law_258 : decode mL_law.2.1 258 = .ok (.iadd, 1) := by decide +kernel
theorem dL_law_259 : decode mL_law.2.1 259 = .ok (.iaload, 1) := by decide +kernel
theorem dL_law_260 : decode mL_law.2.1 260 = .ok (.invokevirtual 39, 3) := by decide +kernel
theorem dL_law_263 : decode mL_law.2.1 263 = .ok (.if_icmp .eq 302, 3) := by decide +kernel
theorem dL_law_266 : decode mL_law.2.1 266 = .ok (.iconst 0, 1) := by decide +kernel
theorem dL_law_267 : decode mL_law.2.1 267 = .ok (.ireturn, 1) := by decide +kernel
theorem dL_law_268 : decode mL_law.2.1 268 = .ok (.aload_n 1, 1) := by decide +kernel
theorem dL_law_269 : decode mL_law.2.1 269 = .ok (.aload_n 0, 1) := by decide +kernel
theorem dL_law_270 : decode mL_law.2.1 270 = .ok (.iload_n 3, 1) := by decide +kernel
theorem dL_law_271 : decode mL_law.2.1 271 = .ok (.iconst 1, 1) := by decide +kernel
theorem dL_law_272 : decode mL_law.2.1 272 = .ok (.iadd, 1) := by decide +kernel
theorem dL_law_273 : decode mL_law.2.1 273 = .ok (.iaload, 1) := by decide +kernel
theorem dL_law_274 : decode mL_law.2.1 274 = .ok (.aload_n 0, 1) := by decide +kernel
theorem dL_law_275 : decode mL_law.2.1 275 = .ok (.iload_n 3, 1) := by decide +kernel
theorem dL_law_276 : decode mL_law.2.1 276 = .ok (.iconst 2, 1) := by decide +kernel
theorem dL_law_277 : decode mL_law.2.1 277 = .ok (.iadd, 1) := by decide +kernel
theorem dL_law_278 : decode mL_law.2.1 278 = .ok (.iaload, 1) := by decide +kernel
theorem dL_law_279 : decode mL_law.2.1 279 = .ok (.aload_n 0, 1) := by decide +kernel
theorem dL_law_280 : decode mL_law.2.1 280 = .ok (.iload_n 3, 1) := by decide +kernel
theorem dL_law_281 : decode mL_law.2.1 281 = .ok (.iconst 3, 1) := by decide +kernel
theorem dL_law_282 : decode mL_law.2.1 282 = .ok (.iadd, 1) := by decide +kernel
theorem dL_law_283 : decode mL_law.2.1 283 = .ok (.iaload, 1) := by decide +kernel
theorem dL_law_284 : decode mL_law.2.1 284 = .ok (.invokevirtual 40, 3) := by decide +kernel
theorem dL_law_287 : decode mL_law.2.1 287 = .ok (.aload_n 2, 1) := by decide +kernel
theorem dL_law_288 : decode mL_law.2.1 288 = .ok (.aload_n 0, 1) := by decide +kernel
theorem dL_law_289 : decode mL_law.2.1 289 = .ok (.iload_n 3, 1) := by decide +kernel
theorem dL_law_290 : decode mL_law.2.1 290 = .ok (.iconst 1, 1) := by decide +kernel
theorem dL_law_291 : decode mL_law.2.1 291 = .ok (.iadd, 1) := by decide +kernel
theorem dL_law_292 : decode mL_law.2.1 292 = .ok (.iaload, 1) := by decide +kernel
theorem dL_law_293 : decode mL_law.2.1 293 = .ok (.aload_n 0, 1) := by decide +kernel
theorem dL_law_294 : decode mL_law.2.1 294 = .ok (.iload_n 3, 1) := by decide +kernel
theorem dL_law_295 : decode mL_law.2.1 295 = .ok (.iconst 2, 1) := by decide +kernel
theorem dL_law_296 : decode mL_law.2.1 296 = .ok (.iadd, 1) := by decide +kernel
theorem dL_law_297 : decode mL_law.2.1 297 = .ok (.iaload, 1) := by decide +kernel
theorem dL_law_298 : decode mL_law.2.1 298 = .ok (.aload_n 0, 1) := by decide +kernel
theorem dL_law_299 : decode mL_law.2.1 299 = .ok (.iload_n 3, 1) := by decide +kernel
theorem dL_law_300 : decode mL_law.2.1 300 = .ok (.iconst 3, 1) := by decide +kernel
theorem dL_law_301 : decode mL_law.2.1 301 = .ok (.iadd, 1) := by decide +kernel
theorem dL_law_302 : decode mL_law.2.1 302 = .ok (.iaload, 1) := by decide +kernel
theorem dL_law_303 : decode mL_law.2.1 303 = .ok (.invokevirtual 44, 3) := by decide +kernel
theorem dL_law_306 : decode mL_law.2.1 306 = .ok (.if_icmp .eq 259, 3) := by decide +kernel
theorem dL_law_309 : decode mL_law.2.1 309 = .ok (.iconst 0, 1) := by decide +kernel
theorem dL_law_310 : decode mL_law.2.1 310 = .ok (.ireturn, 1) := by decide +kernel
theorem dL_law_311 : decode mL_law.2.1 311 = .ok (.aload_n 1, 1) := by decide +kernel
theorem dL_law_312 : decode mL_law.2.1 312 = .ok (.aload_n 0, 1) := by decide +kernel
theorem dL_law_313 : decode mL_law.2.1 313 = .ok (.iload_n 3, 1) := by decide +kernel
theorem dL_law_314 : decode mL_law.2.1 314 = .ok (.iconst 1, 1) := by decide +kernel
theorem dL_law_315 : decode mL_law.2.1 315 = .ok (.iadd, 1) := by decide +kernel
theorem dL_law_316 : decode mL_law.2.1 316 = .ok (.iaload, 1) := by decide +kernel
theorem dL_law_317 : decode mL_law.2.1 317 = .ok (.aload_n 0, 1) := by decide +kernel
theorem dL_law_318 : decode mL_law.2.1 318 = .ok (.iload_n 3, 1) := by decide +kernel
theorem dL_law_319 : decode mL_law.2.1 319 = .ok (.iconst 2, 1) := by decide +kernel
theorem dL_law_320 : decode mL_law.2.1 320 = .ok (.iadd, 1) := by decide +kernel
theorem dL_law_321 : decode mL_law.2.1 321 = .ok (.iaload, 1) := by decide +kernel
theorem dL_law_322 : decode mL_law.2.1 322 = .ok (.invokevirtual 45, 3) := by decide +kernel
theorem dL_law_325 : decode mL_law.2.1 325 = .ok (.aload_n 2, 1) := by decide +kernel
theorem dL_law_326 : decode mL_law.2.1 326 = .ok (.aload_n 0, 1) := by decide +kernel
theorem dL_law_327 : decode mL_law.2.1 327 = .ok (.iload_n 3, 1) := by decide +kernel
theorem dL_law_328 : decode mL_law.2.1 328 = .ok (.iconst 1, 1) := by decide +kernel
theorem dL_law_329 : decode mL_law.2.1 329 = .ok (.iadd, 1) := by decide +kernel
theorem dL_law_330 : decode mL_law.2.1 330 = .ok (.iaload, 1) := by decide +kernel
theorem dL_law_331 : decode mL_law.2.1 331 = .ok (.aload_n 0, 1) := by decide +kernel
theorem dL_law_332 : decode mL_law.2.1 332 = .ok (.iload_n 3, 1) := by decide +kernel
theorem dL_law_333 : decode mL_law.2.1 333 = .ok (.iconst 2, 1) := by decide +kernel
theorem dL_law_334 : decode mL_law.2.1 334 = .ok (.iadd, 1) := by decide +kernel
theorem dL_law_335 : decode mL_law.2.1 335 = .ok (.iaload, 1) := by decide +kernel
theorem dL_law_336 : decode mL_law.2.1 336 = .ok (.invokevirtual 48, 3) := by decide +kernel
theorem dL_law_339 : decode mL_law.2.1 339 = .ok (.if_icmp .eq 226, 3) := by decide +kernel
theorem dL_law_342 : decode mL_law.2.1 342 = .ok (.iconst 0, 1) := by decide +kernel
theorem dL_law_343 : decode mL_law.2.1 343 = .ok (.ireturn, 1) := by decide +kernel
theorem dL_law_344 : decode mL_law.2.1 344 = .ok (.aload_n 1, 1) := by decide +kernel
theorem dL_law_345 : decode mL_law.2.1 345 = .ok (.aload_n 0, 1) := by decide +kernel
theorem dL_law_346 : decode mL_law.2.1 346 = .ok (.iload_n 3, 1) := by decide +kernel
theorem dL_law_347 : decode mL_law.2.1 347 = .ok (.iconst 1, 1) := by decide +kernel
theorem dL_law_348 : decode mL_law.2.1 348 = .ok (.iadd, 1) := by decide +kernel
theorem dL_law_349 : decode mL_law.2.1 349 = .ok (.iaload, 1) := by decide +kernel
theorem dL_law_350 : decode mL_law.2.1 350 = .ok (.aload_n 0, 1) := by decide +kernel
theorem dL_law_351 : decode mL_law.2.1 351 = .ok (.iload_n 3, 1) := by decide +kernel
theorem dL_law_352 : decode mL_law.2.1 352 = .ok (.iconst 2, 1) := by decide +kernel
theorem dL_law_353 : decode mL_law.2.1 353 = .ok (.iadd, 1) := by decide +kernel
theorem dL_law_354 : decode mL_law.2.1 354 = .ok (.iaload, 1) := by decide +kernel
theorem dL_law_355 : decode mL_law.2.1 355 = .ok (.invokevirtual 49, 3) := by decide +kernel
theorem dL_law_358 : decode mL_law.2.1 358 = .ok (.aload_n 2, 1) := by decide +kernel
theorem dL_law_359 : decode mL_law.2.1 359 = .ok (.aload_n 0, 1) := by decide +kernel
theorem dL_law_360 : decode mL_law.2.1 360 = .ok (.iload_n 3, 1) := by decide +kernel
theorem dL_law_361 : decode mL_law.2.1 361 = .ok (.iconst 1, 1) := by decide +kernel
theorem dL_law_362 : decode mL_law.2.1 362 = .ok (.iadd, 1) := by decide +kernel
theorem dL_law_363 : decode mL_law.2.1 363 = .ok (.iaload, 1) := by decide +kernel
theorem dL_law_364 : decode mL_law.2.1 364 = .ok (.aload_n 0, 1) := by decide +kernel
theorem dL_law_365 : decode mL_law.2.1 365 = .ok (.iload_n 3, 1) := by decide +kernel
theorem dL_law_366 : decode mL_law.2.1 366 = .ok (.iconst 2, 1) := by decide +kernel
theorem dL_law_367 : decode mL_law.2.1 367 = .ok (.iadd, 1) := by decide +kernel
theorem dL_law_368 : decode mL_law.2.1 368 = .ok (.iaload, 1) := by decide +kernel
theorem dL_law_369 : decode mL_law.2.1 369 = .ok (.invokevirtual 52, 3) := by decide +kernel
theorem dL_law_372 : decode mL_law.2.1 372 = .ok (.if_icmp .eq 193, 3) := by decide +kernel
theorem dL_law_375 : decode mL_law.2.1 375 = .ok (.iconst 0, 1) := by decide +kernel
theorem dL_law_376 : decode mL_law.2.1 376 = .ok (.ireturn, 1) := by decide +kernel
theorem dL_law_377 : decode mL_law.2.1 377 = .ok (.aload_n 1, 1) := by decide +kernel
theorem dL_law_378 : decode mL_law.2.1 378 = .ok (.invokevirtual 53, 3) := by decide +kernel
theorem dL_law_381 : decode mL_law.2.1 381 = .ok (.aload_n 2, 1) := by decide +kernel
theorem dL_law_382 : decode mL_law.2.1 382 = .ok (.invokevirtual 56, 3) := by decide +kernel
theorem dL_law_385 : decode mL_law.2.1 385 = .ok (.if_icmp .eq 180, 3) := by decide +kernel
theorem dL_law_388 : decode mL_law.2.1 388 = .ok (.iconst 0, 1) := by decide +kernel
theorem dL_law_389 : decode mL_law.2.1 389 = .ok (.ireturn, 1) := by decide +kernel
theorem dL_law_390 : decode mL_law.2.1 390 = .ok (.aload_n 1, 1) := by decide +kernel
theorem dL_law_391 : decode mL_law.2.1 391 = .ok (.aload_n 0, 1) := by decide +kernel
theorem dL_law_392 : decode mL_law.2.1 392 = .ok (.iload_n 3, 1) := by decide +kernel
theorem dL_law_393 : decode mL_law.2.1 393 = .ok (.iconst 1, 1) := by decide +kernel
theorem dL_law_394 : decode mL_law.2.1 394 = .ok (.iadd, 1) := by decide +kernel
theorem dL_law_395 : decode mL_law.2.1 395 = .ok (.iaload, 1) := by decide +kernel
theorem dL_law_396 : decode mL_law.2.1 396 = .ok (.aload_n 0, 1) := by decide +kernel
theorem dL_law_397 : decode mL_law.2.1 397 = .ok (.iload_n 3, 1) := by decide +kernel
theorem dL_law_398 : decode mL_law.2.1 398 = .ok (.iconst 2, 1) := by decide +kernel
theorem dL_law_399 : decode mL_law.2.1 399 = .ok (.iadd, 1) := by decide +kernel
theorem dL_law_400 : decode mL_law.2.1 400 = .ok (.iaload, 1) := by decide +kernel
theorem dL_law_401 : decode mL_law.2.1 401 = .ok (.invokevirtual 57, 3) := by decide +kernel
theorem dL_law_404 : decode mL_law.2.1 404 = .ok (.aload_n 2, 1) := by decide +kernel
theorem dL_law_405 : decode mL_law.2.1 405 = .ok (.aload_n 0, 1) := by decide +kernel
theorem dL_law_406 : decode mL_law.2.1 406 = .ok (.iload_n 3, 1) := by decide +kernel
theorem dL_law_407 : decode mL_law.2.1 407 = .ok (.iconst 1, 1) := by decide +kernel
theorem dL_law_408 : decode mL_law.2.1 408 = .ok (.iadd, 1) := by decide +kernel
theorem dL_law_409 : decode mL_law.2.1 409 = .ok (.iaload, 1) := by decide +kernel
theorem dL_law_410 : decode mL_law.2.1 410 = .ok (.aload_n 0, 1) := by decide +kernel
theorem dL_law_411 : decode mL_law.2.1 411 = .ok (.iload_n 3, 1) := by decide +kernel
theorem dL_law_412 : decode mL_law.2.1 412 = .ok (.iconst 2, 1) := by decide +kernel
theorem dL_law_413 : decode mL_law.2.1 413 = .ok (.iadd, 1) := by decide +kernel
theorem dL_law_414 : decode mL_law.2.1 414 = .ok (.iaload, 1) := by decide +kernel
theorem dL_law_415 : decode mL_law.2.1 415 = .ok (.invokevirtual 60, 3) := by decide +kernel
theorem dL_law_418 : decode mL_law.2.1 418 = .ok (.if_icmp .eq 147, 3) := by decide +kernel
theorem dL_law_421 : decode mL_law.2.1 421 = .ok (.iconst 0, 1) := by decide +kernel
theorem dL_law_422 : decode mL_law.2.1 422 = .ok (.ireturn, 1) := by decide +kernel
theorem dL_law_423 : decode mL_law.2.1 423 = .ok (.aload_n 1, 1) := by decide +kernel
theorem dL_law_424 : decode mL_law.2.1 424 = .ok (.aload_n 0, 1) := by decide +kernel
theorem dL_law_425 : decode mL_law.2.1 425 = .ok (.iload_n 3, 1) := by decide +kernel
theorem dL_law_426 : decode mL_law.2.1 426 = .ok (.iconst 1, 1) := by decide +kernel
theorem dL_law_427 : decode mL_law.2.1 427 = .ok (.iadd, 1) := by decide +kernel
theorem dL_law_428 : decode mL_law.2.1 428 = .ok (.iaload, 1) := by decide +kernel
theorem dL_law_429 : decode mL_law.2.1 429 = .ok (.invokevirtual 61, 3) := by decide +kernel
theorem dL_law_432 : decode mL_law.2.1 432 = .ok (.aload_n 2, 1) := by decide +kernel
theorem dL_law_433 : decode mL_law.2.1 433 = .ok (.aload_n 0, 1) := by decide +kernel
theorem dL_law_434 : decode mL_law.2.1 434 = .ok (.iload_n 3, 1) := by decide +kernel
theorem dL_law_435 : decode mL_law.2.1 435 = .ok (.iconst 1, 1) := by decide +kernel
theorem dL_law_436 : decode mL_law.2.1 436 = .ok (.iadd, 1) := by decide +kernel
theorem dL_law_437 : decode mL_law.2.1 437 = .ok (.iaload, 1) := by decide +kernel
theorem dL_law_438 : decode mL_law.2.1 438 = .ok (.invokevirtual 64, 3) := by decide +kernel
theorem dL_law_441 : decode mL_law.2.1 441 = .ok (.if_icmp .eq 124, 3) := by decide +kernel
theorem dL_law_444 : decode mL_law.2.1 444 = .ok (.iconst 0, 1) := by decide +kernel
theorem dL_law_445 : decode mL_law.2.1 445 = .ok (.ireturn, 1) := by decide +kernel
theorem dL_law_446 : decode mL_law.2.1 446 = .ok (.aload_n 1, 1) := by decide +kernel
theorem dL_law_447 : decode mL_law.2.1 447 = .ok (.aload_n 0, 1) := by decide +kernel
theorem dL_law_448 : decode mL_law.2.1 448 = .ok (.iload_n 3, 1) := by decide +kernel
theorem dL_law_449 : decode mL_law.2.1 449 = .ok (.iconst 1, 1) := by decide +kernel
theorem dL_law_450 : decode mL_law.2.1 450 = .ok (.iadd, 1) := by decide +kernel
theorem dL_law_451 : decode mL_law.2.1 451 = .ok (.iaload, 1) := by decide +kernel
theorem dL_law_452 : decode mL_law.2.1 452 = .ok (.invokevirtual 65, 3) := by decide +kernel
theorem dL_law_455 : decode mL_law.2.1 455 = .ok (.aload_n 2, 1) := by decide +kernel
theorem dL_law_456 : decode mL_law.2.1 456 = .ok (.aload_n 0, 1) := by decide +kernel
theorem dL_law_457 : decode mL_law.2.1 457 = .ok (.iload_n 3, 1) := by decide +kernel
theorem dL_law_458 : decode mL_law.2.1 458 = .ok (.iconst 1, 1) := by decide +kernel
theorem dL_law_459 : decode mL_law.2.1 459 = .ok (.iadd, 1) := by decide +kernel
theorem dL_law_460 : decode mL_law.2.1 460 = .ok (.iaload, 1) := by decide +kernel
theorem dL_law_461 : decode mL_law.2.1 461 = .ok (.invokevirtual 68, 3) := by decide +kernel
theorem dL_law_464 : decode mL_law.2.1 464 = .ok (.if_icmp .eq 101, 3) := by decide +kernel
theorem dL_law_467 : decode mL_law.2.1 467 = .ok (.iconst 0, 1) := by decide +kernel
theorem dL_law_468 : decode mL_law.2.1 468 = .ok (.ireturn, 1) := by decide +kernel
theorem dL_law_469 : decode mL_law.2.1 469 = .ok (.aload_n 1, 1) := by decide +kernel
theorem dL_law_470 : decode mL_law.2.1 470 = .ok (.aload_n 0, 1) := by decide +kernel
theorem dL_law_471 : decode mL_law.2.1 471 = .ok (.iload_n 3, 1) := by decide +kernel
theorem dL_law_472 : decode mL_law.2.1 472 = .ok (.iconst 1, 1) := by decide +kernel
theorem dL_law_473 : decode mL_law.2.1 473 = .ok (.iadd, 1) := by decide +kernel
theorem dL_law_474 : decode mL_law.2.1 474 = .ok (.iaload, 1) := by decide +kernel
theorem dL_law_475 : decode mL_law.2.1 475 = .ok (.aload_n 0, 1) := by decide +kernel
theorem dL_law_476 : decode mL_law.2.1 476 = .ok (.iload_n 3, 1) := by decide +kernel
theorem dL_law_477 : decode mL_law.2.1 477 = .ok (.iconst 2, 1) := by decide +kernel
theorem dL_law_478 : decode mL_law.2.1 478 = .ok (.iadd, 1) := by decide +kernel
theorem dL_law_479 : decode mL_law.2.1 479 = .ok (.iaload, 1) := by decide +kernel
theorem dL_law_480 : decode mL_law.2.1 480 = .ok (.invokevirtual 69, 3) := by decide +kernel
theorem dL_law_483 : decode mL_law.2.1 483 = .ok (.aload_n 2, 1) := by decide +kernel
theorem dL_law_484 : decode mL_law.2.1 484 = .ok (.aload_n 0, 1) := by decide +kernel
theorem dL_law_485 : decode mL_law.2.1 485 = .ok (.iload_n 3, 1) := by decide +kernel
theorem dL_law_486 : decode mL_law.2.1 486 = .ok (.iconst 1, 1) := by decide +kernel
theorem dL_law_487 : decode mL_law.2.1 487 = .ok (.iadd, 1) := by decide +kernel
theorem dL_law_488 : decode mL_law.2.1 488 = .ok (.iaload, 1) := by decide +kernel
theorem dL_law_489 : decode mL_law.2.1 489 = .ok (.aload_n 0, 1) := by decide +kernel
theorem dL_law_490 : decode mL_law.2.1 490 = .ok (.iload_n 3, 1) := by decide +kernel
theorem dL_law_491 : decode mL_law.2.1 491 = .ok (.iconst 2, 1) := by decide +kernel
theorem dL_law_492 : decode mL_law.2.1 492 = .ok (.iadd, 1) := by decide +kernel
theorem dL_law_493 : decode mL_law.2.1 493 = .ok (.iaload, 1) := by decide +kernel
theorem dL_law_494 : decode mL_law.2.1 494 = .ok (.invokevirtual 72, 3) := by decide +kernel
theorem dL_law_497 : decode mL_law.2.1 497 = .ok (.if_icmp .eq 68, 3) := by decide +kernel
theorem dL_law_500 : decode mL_law.2.1 500 = .ok (.iconst 0, 1) := by decide +kernel
theorem dL_law_501 : decode mL_law.2.1 501 = .ok (.ireturn, 1) := by decide +kernel
theorem dL_law_502 : decode mL_law.2.1 502 = .ok (.aload_n 1, 1) := by decide +kernel
theorem dL_law_503 : decode mL_law.2.1 503 = .ok (.invokevirtual 73, 3) := by decide +kernel
theorem dL_law_506 : decode mL_law.2.1 506 = .ok (.aload_n 2, 1) := by decide +kernel
theorem dL_law_507 : decode mL_law.2.1 507 = .ok (.invokevirtual 76, 3) := by decide +kernel
theorem dL_law_510 : decode mL_law.2.1 510 = .ok (.if_icmp .eq 55, 3) := by decide +kernel
theorem dL_law_513 : decode mL_law.2.1 513 = .ok (.iconst 0, 1) := by decide +kernel
theorem dL_law_514 : decode mL_law.2.1 514 = .ok (.ireturn, 1) := by decide +kernel
theorem dL_law_515 : decode mL_law.2.1 515 = .ok (.aload_n 1, 1) := by decide +kernel
theorem dL_law_516 : decode mL_law.2.1 516 = .ok (.invokevirtual 77, 3) := by decide +kernel
theorem dL_law_519 : decode mL_law.2.1 519 = .ok (.aload_n 2, 1) := by decide +kernel
theorem dL_law_520 : decode mL_law.2.1 520 = .ok (.invokevirtual 80, 3) := by decide +kernel
theorem dL_law_523 : decode mL_law.2.1 523 = .ok (.if_icmp .eq 42, 3) := by decide +kernel
theorem dL_law_526 : decode mL_law.2.1 526 = .ok (.iconst 0, 1) := by decide +kernel
theorem dL_law_527 : decode mL_law.2.1 527 = .ok (.ireturn, 1) := by decide +kernel
theorem dL_law_528 : decode mL_law.2.1 528 = .ok (.aload_n 1, 1) := by decide +kernel
theorem dL_law_529 : decode mL_law.2.1 529 = .ok (.aload_n 0, 1) := by decide +kernel
theorem dL_law_530 : decode mL_law.2.1 530 = .ok (.iload_n 3, 1) := by decide +kernel
theorem dL_law_531 : decode mL_law.2.1 531 = .ok (.iconst 1, 1) := by decide +kernel
theorem dL_law_532 : decode mL_law.2.1 532 = .ok (.iadd, 1) := by decide +kernel
theorem dL_law_533 : decode mL_law.2.1 533 = .ok (.iaload, 1) := by decide +kernel
theorem dL_law_534 : decode mL_law.2.1 534 = .ok (.invokevirtual 81, 3) := by decide +kernel
theorem dL_law_537 : decode mL_law.2.1 537 = .ok (.aload_n 2, 1) := by decide +kernel
theorem dL_law_538 : decode mL_law.2.1 538 = .ok (.aload_n 0, 1) := by decide +kernel
theorem dL_law_539 : decode mL_law.2.1 539 = .ok (.iload_n 3, 1) := by decide +kernel
theorem dL_law_540 : decode mL_law.2.1 540 = .ok (.iconst 1, 1) := by decide +kernel
theorem dL_law_541 : decode mL_law.2.1 541 = .ok (.iadd, 1) := by decide +kernel
theorem dL_law_542 : decode mL_law.2.1 542 = .ok (.iaload, 1) := by decide +kernel
theorem dL_law_543 : decode mL_law.2.1 543 = .ok (.invokevirtual 84, 3) := by decide +kernel
theorem dL_law_546 : decode mL_law.2.1 546 = .ok (.if_icmp .eq 19, 3) := by decide +kernel
theorem dL_law_549 : decode mL_law.2.1 549 = .ok (.iconst 0, 1) := by decide +kernel
theorem dL_law_550 : decode mL_law.2.1 550 = .ok (.ireturn, 1) := by decide +kernel
theorem dL_law_551 : decode mL_law.2.1 551 = .ok (.aload_n 1, 1) := by decide +kernel
theorem dL_law_552 : decode mL_law.2.1 552 = .ok (.invokevirtual 85, 3) := by decide +kernel
theorem dL_law_555 : decode mL_law.2.1 555 = .ok (.aload_n 2, 1) := by decide +kernel
theorem dL_law_556 : decode mL_law.2.1 556 = .ok (.invokevirtual 89, 3) := by decide +kernel
theorem dL_law_559 : decode mL_law.2.1 559 = .ok (.lcmp, 1) := by decide +kernel
theorem dL_law_560 : decode mL_law.2.1 560 = .ok (.ifCond .eq 5, 3) := by decide +kernel
theorem dL_law_563 : decode mL_law.2.1 563 = .ok (.iconst 0, 1) := by decide +kernel
theorem dL_law_564 : decode mL_law.2.1 564 = .ok (.ireturn, 1) := by decide +kernel
theorem dL_law_565 : decode mL_law.2.1 565 = .ok (.iinc 3 4, 3) := by decide +kernel
theorem dL_law_568 : decode mL_law.2.1 568 = .ok (.goto (-550), 3) := by decide +kernel
theorem dL_law_571 : decode mL_law.2.1 571 = .ok (.iconst 1, 1) := by decide +kernel
theorem dL_law_572 : decode mL_law.2.1 572 = .ok (.ireturn, 1) := by decide +kernel
end
section
theorem dX10_init_0 : decode mX10_init.2.1 0 = .ok (.aload_n 0, 1) := by decide +kernel
theorem dX10_init_1 : decode mX10_init.2.1 1 = .ok (.invokespecial 1, 3) := by decide +kernel
theorem dX10_init_4 : decode mX10_init.2.1 4 = .ok (.aload_n 0, 1) := by decide +kernel
theorem dX10_init_5 : decode mX10_init.2.1 5 = .ok (.sipush 133, 3) := by decide +kernel
theorem dX10_init_8 : decode mX10_init.2.1 8 = .ok (.newarray .int, 2) := by decide +kernel
theorem dX10_init_10 : decode mX10_init.2.1 10 = .ok (.putfield 7, 3) := by decide +kernel
theorem dX10_init_13 : decode mX10_init.2.1 13 = .ok (.aload_n 0, 1) := by decide +kernel
theorem dX10_init_14 : decode mX10_init.2.1 14 = .ok (.sipush 133, 3) := by decide +kernel
theorem dX10_init_17 : decode mX10_init.2.1 17 = .ok (.newarray .int, 2) := by decide +kernel
theorem dX10_init_19 : decode mX10_init.2.1 19 = .ok (.putfield 13, 3) := by decide +kernel
theorem dX10_init_22 : decode mX10_init.2.1 22 = .ok (.aload_n 0, 1) := by decide +kernel
theorem dX10_init_23 : decode mX10_init.2.1 23 = .ok (.sipush 665, 3) := by decide +kernel
theorem dX10_init_26 : decode mX10_init.2.1 26 = .ok (.newarray .int, 2) := by decide +kernel
theorem dX10_init_28 : decode mX10_init.2.1 28 = .ok (.putfield 16, 3) := by decide +kernel
theorem dX10_init_31 : decode mX10_init.2.1 31 = .ok (.aload_n 0, 1) := by decide +kernel
theorem dX10_init_32 : decode mX10_init.2.1 32 = .ok (.iconst 3, 1) := by decide +kernel
theorem dX10_init_33 : decode mX10_init.2.1 33 = .ok (.newarray .int, 2) := by decide +kernel
theorem dX10_init_35 : decode mX10_init.2.1 35 = .ok (.putfield 19, 3) := by decide +kernel
theorem dX10_init_38 : decode mX10_init.2.1 38 = .ok (.aload_n 0, 1) := by decide +kernel
theorem dX10_init_39 : decode mX10_init.2.1 39 = .ok (.sipush 200, 3) := by decide +kernel
theorem dX10_init_42 : decode mX10_init.2.1 42 = .ok (.newarray .int, 2) := by decide +kernel
theorem dX10_init_44 : decode mX10_init.2.1 44 = .ok (.putfield 22, 3) := by decide +kernel
theorem dX10_init_47 : decode mX10_init.2.1 47 = .ok (.aload_n 0, 1) := by decide +kernel
theorem dX10_init_48 : decode mX10_init.2.1 48 = .ok (.bipush 32, 2) := by decide +kernel
theorem dX10_init_50 : decode mX10_init.2.1 50 = .ok (.newarray .int, 2) := by decide +kernel
theorem dX10_init_52 : decode mX10_init.2.1 52 = .ok (.putfield 25, 3) := by decide +kernel
theorem dX10_init_55 : decode mX10_init.2.1 55 = .ok (.aload_n 0, 1) := by decide +kernel
theorem dX10_init_56 : decode mX10_init.2.1 56 = .ok (.bipush 32, 2) := by decide +kernel
theorem dX10_init_58 : decode mX10_init.2.1 58 = .ok (.newarray .int, 2) := by decide +kernel
theorem dX10_init_60 : decode mX10_init.2.1 60 = .ok (.putfield 28, 3) := by decide +kernel
theorem dX10_init_63 : decode mX10_init.2.1 63 = .ok (.aload_n 0, 1) := by decide +kernel
theorem dX10_init_64 : decode mX10_init.2.1 64 = .ok (.bipush 32, 2) := by decide +kernel
theorem dX10_init_66 : decode mX10_init.2.1 66 = .ok (.newarray .int, 2) := by decide +kernel
theorem dX10_init_68 : decode mX10_init.2.1 68 = .ok (.putfield 31, 3) := by decide +kernel
theorem dX10_init_71 : decode mX10_init.2.1 71 = .ok (.aload_n 0, 1) := by decide +kernel
theorem dX10_init_72 : decode mX10_init.2.1 72 = .ok (.bipush 32, 2) := by decide +kernel
theorem dX10_init_74 : decode mX10_init.2.1 74 = .ok (.newarray .int, 2) := by decide +kernel
theorem dX10_init_76 : decode mX10_init.2.1 76 = .ok (.putfield 34, 3) := by decide +kernel
theorem dX10_init_79 : decode mX10_init.2.1 79 = .ok (.aload_n 0, 1) := by decide +kernel
theorem dX10_init_80 : decode mX10_init.2.1 80 = .ok (.bipush 32, 2) := by decide +kernel
theorem dX10_init_82 : decode mX10_init.2.1 82 = .ok (.newarray .int, 2) := by decide +kernel
theorem dX10_init_84 : decode mX10_init.2.1 84 = .ok (.putfield 37, 3) := by decide +kernel
theorem dX10_init_87 : decode mX10_init.2.1 87 = .ok (.aload_n 0, 1) := by decide +kernel
theorem dX10_init_88 : decode mX10_init.2.1 88 = .ok (.bipush 49, 2) := by decide +kernel
theorem dX10_init_90 : decode mX10_init.2.1 90 = .ok (.newarray .int, 2) := by decide +kernel
theorem dX10_init_92 : decode mX10_init.2.1 92 = .ok (.putfield 40, 3) := by decide +kernel
theorem dX10_init_95 : decode mX10_init.2.1 95 = .ok (.aload_n 0, 1) := by decide +kernel
theorem dX10_init_96 : decode mX10_init.2.1 96 = .ok (.sipush 4100, 3) := by decide +kernel
theorem dX10_init_99 : decode mX10_init.2.1 99 = .ok (.newarray .int, 2) := by decide +kernel
theorem dX10_init_101 : decode mX10_init.2.1 101 = .ok (.putfield 43, 3) := by decide +kernel
theorem dX10_init_104 : decode mX10_init.2.1 104 = .ok (.aload_n 0, 1) := by decide +kernel
theorem dX10_init_105 : decode mX10_init.2.1 105 = .ok (.sipush 4100, 3) := by decide +kernel
theorem dX10_init_108 : decode mX10_init.2.1 108 = .ok (.newarray .int, 2) := by decide +kernel
theorem dX10_init_110 : decode mX10_init.2.1 110 = .ok (.putfield 46, 3) := by decide +kernel
theorem dX10_init_113 : decode mX10_init.2.1 113 = .ok (.aload_n 0, 1) := by decide +kernel
theorem dX10_init_114 : decode mX10_init.2.1 114 = .ok (.sipush 4100, 3) := by decide +kernel
theorem dX10_init_117 : decode mX10_init.2.1 117 = .ok (.newarray .int, 2) := by decide +kernel
theorem dX10_init_119 : decode mX10_init.2.1 119 = .ok (.putfield 49, 3) := by decide +kernel
theorem dX10_init_122 : decode mX10_init.2.1 122 = .ok (.aload_n 0, 1) := by decide +kernel
theorem dX10_init_123 : decode mX10_init.2.1 123 = .ok (.sipush 4100, 3) := by decide +kernel
theorem dX10_init_126 : decode mX10_init.2.1 126 = .ok (.newarray .int, 2) := by decide +kernel
theorem dX10_init_128 : decode mX10_init.2.1 128 = .ok (.putfield 52, 3) := by decide +kernel
theorem dX10_init_131 : decode mX10_init.2.1 131 = .ok (.aload_n 0, 1) := by decide +kernel
theorem dX10_init_132 : decode mX10_init.2.1 132 = .ok (.bipush 16, 2) := by decide +kernel
theorem dX10_init_134 : decode mX10_init.2.1 134 = .ok (.newarray .int, 2) := by decide +kernel
theorem dX10_init_136 : decode mX10_init.2.1 136 = .ok (.putfield 55, 3) := by decide +kernel
theorem dX10_init_139 : decode mX10_init.2.1 139 = .ok (.aload_n 0, 1) := by decide +kernel
theorem dX10_init_140 : decode mX10_init.2.1 140 = .ok (.iconst 4, 1) := by decide +kernel
theorem dX10_init_141 : decode mX10_init.2.1 141 = .ok (.newarray .int, 2) := by decide +kernel
theorem dX10_init_143 : decode mX10_init.2.1 143 = .ok (.putfield 58, 3) := by decide +kernel
theorem dX10_init_146 : decode mX10_init.2.1 146 = .ok (.aload_n 0, 1) := by decide +kernel
theorem dX10_init_147 : decode mX10_init.2.1 147 = .ok (.iconst 4, 1) := by decide +kernel
theorem dX10_init_148 : decode mX10_init.2.1 148 = .ok (.newarray .int, 2) := by decide +kernel
theorem dX10_init_150 : decode mX10_init.2.1 150 = .ok (.putfield 61, 3) := by decide +kernel
theorem dX10_init_153 : decode mX10_init.2.1 153 = .ok (.aload_n 0, 1) := by decide +kernel
theorem dX10_init_154 : decode mX10_init.2.1 154 = .ok (.iconst 4, 1) := by decide +kernel
theorem dX10_init_155 : decode mX10_init.2.1 155 = .ok (.newarray .int, 2) := by decide +kernel
theorem dX10_init_157 : decode mX10_init.2.1 157 = .ok (.putfield 64, 3) := by decide +kernel
theorem dX10_init_160 : decode mX10_init.2.1 160 = .ok (.aload_n 0, 1) := by decide +kernel
theorem dX10_init_161 : decode mX10_init.2.1 161 = .ok (.iconst 4, 1) := by decide +kernel
theorem dX10_init_162 : decode mX10_init.2.1 162 = .ok (.newarray .int, 2) := by decide +kernel
theorem dX10_init_164 : decode mX10_init.2.1 164 = .ok (.putfield 67, 3) := by decide +kernel
theorem dX10_init_167 : decode mX10_init.2.1 167 = .ok (.aload_n 0, 1) := by decide +kernel
theorem dX10_init_168 : decode mX10_init.2.1 168 = .ok (.iconst 4, 1) := by decide +kernel
theorem dX10_init_169 : decode mX10_init.2.1 169 = .ok (.newarray .int, 2) := by decide +kernel
theorem dX10_init_171 : decode mX10_init.2.1 171 = .ok (.putfield 70, 3) := by decide +kernel
theorem dX10_init_174 : decode mX10_init.2.1 174 = .ok (.aload_n 0, 1) := by decide +kernel
theorem dX10_init_175 : decode mX10_init.2.1 175 = .ok (.iconst 4, 1) := by decide +kernel
theorem dX10_init_176 : decode mX10_init.2.1 176 = .ok (.newarray .int, 2) := by decide +kernel
theorem dX10_init_178 : decode mX10_init.2.1 178 = .ok (.putfield 73, 3) := by decide +kernel
theorem dX10_init_181 : decode mX10_init.2.1 181 = .ok (.aload_n 0, 1) := by decide +kernel
theorem dX10_init_182 : decode mX10_init.2.1 182 = .ok (.bipush 32, 2) := by decide +kernel
theorem dX10_init_184 : decode mX10_init.2.1 184 = .ok (.newarray .int, 2) := by decide +kernel
theorem dX10_init_186 : decode mX10_init.2.1 186 = .ok (.putfield 76, 3) := by decide +kernel
theorem dX10_init_189 : decode mX10_init.2.1 189 = .ok (.aload_n 0, 1) := by decide +kernel
theorem dX10_init_190 : decode mX10_init.2.1 190 = .ok (.bipush 32, 2) := by decide +kernel
theorem dX10_init_192 : decode mX10_init.2.1 192 = .ok (.newarray .int, 2) := by decide +kernel
theorem dX10_init_194 : decode mX10_init.2.1 194 = .ok (.putfield 79, 3) := by decide +kernel
theorem dX10_init_197 : decode mX10_init.2.1 197 = .ok (.aload_n 0, 1) := by decide +kernel
theorem dX10_init_198 : decode mX10_init.2.1 198 = .ok (.bipush 32, 2) := by decide +kernel
theorem dX10_init_200 : decode mX10_init.2.1 200 = .ok (.newarray .int, 2) := by decide +kernel
theorem dX10_init_202 : decode mX10_init.2.1 202 = .ok (.putfield 82, 3) := by decide +kernel
theorem dX10_init_205 : decode mX10_init.2.1 205 = .ok (.return_, 1) := by decide +kernel
theorem dX10_in_0 : decode mX10_in.2.1 0 = .ok (.iload_n 0, 1) := by decide +kernel
theorem dX10_in_1 : decode mX10_in.2.1 1 = .ok (.iload_n 1, 1) := by decide +kernel
theorem dX10_in_2 : decode mX10_in.2.1 2 = .ok (.if_icmp .lt 12, 3) := by decide +kernel
theorem dX10_in_5 : decode mX10_in.2.1 5 = .ok (.iload_n 0, 1) := by decide +kernel
theorem dX10_in_6 : decode mX10_in.2.1 6 = .ok (.iload_n 2, 1) := by decide +kernel
theorem dX10_in_7 : decode mX10_in.2.1 7 = .ok (.if_icmp .gt 7, 3) := by decide +kernel
theorem dX10_in_10 : decode mX10_in.2.1 10 = .ok (.iconst 1, 1) := by decide +kernel
theorem dX10_in_11 : decode mX10_in.2.1 11 = .ok (.goto 4, 3) := by decide +kernel
theorem dX10_in_14 : decode mX10_in.2.1 14 = .ok (.iconst 0, 1) := by decide +kernel
theorem dX10_in_15 : decode mX10_in.2.1 15 = .ok (.ireturn, 1) := by decide +kernel
theorem dX10_bring_0 : decode mX10_bring.2.1 0 = .ok (.iconst 0, 1) := by decide +kernel
theorem dX10_bring_1 : decode mX10_bring.2.1 1 = .ok (.istore 4, 2) := by decide +kernel
theorem dX10_bring_3 : decode mX10_bring.2.1 3 = .ok (.iload 4, 2) := by decide +kernel
theorem dX10_bring_5 : decode mX10_bring.2.1 5 = .ok (.sipush 133, 3) := by decide +kernel
theorem dX10_bring_8 : decode mX10_bring.2.1 8 = .ok (.if_icmp .ge 21, 3) := by decide +kernel
theorem dX10_bring_11 : decode mX10_bring.2.1 11 = .ok (.aload_n 2, 1) := by decide +kernel
theorem dX10_bring_12 : decode mX10_bring.2.1 12 = .ok (.iload_n 3, 1) := by decide +kernel
theorem dX10_bring_13 : decode mX10_bring.2.1 13 = .ok (.iload 4, 2) := by decide +kernel
theorem dX10_bring_15 : decode mX10_bring.2.1 15 = .ok (.iadd, 1) := by decide +kernel
theorem dX10_bring_16 : decode mX10_bring.2.1 16 = .ok (.aload_n 0, 1) := by decide +kernel
theorem dX10_bring_17 : decode mX10_bring.2.1 17 = .ok (.iload_n 1, 1) := by decide +kernel
theorem dX10_bring_18 : decode mX10_bring.2.1 18 = .ok (.iload 4, 2) := by decide +kernel
theorem dX10_bring_20 : decode mX10_bring.2.1 20 = .ok (.iadd, 1) := by decide +kernel
theorem dX10_bring_21 : decode mX10_bring.2.1 21 = .ok (.iaload, 1) := by decide +kernel
theorem dX10_bring_22 : decode mX10_bring.2.1 22 = .ok (.iastore, 1) := by decide +kernel
theorem dX10_bring_23 : decode mX10_bring.2.1 23 = .ok (.iinc 4 1, 3) := by decide +kernel
theorem dX10_bring_26 : decode mX10_bring.2.1 26 = .ok (.goto (-23), 3) := by decide +kernel
theorem dX10_bring_29 : decode mX10_bring.2.1 29 = .ok (.return_, 1) := by decide +kernel
theorem dX10_refuse_0 : decode mX10_refuse.2.1 0 = .ok (.aload_n 0, 1) := by decide +kernel
theorem dX10_refuse_1 : decode mX10_refuse.2.1 1 = .ok (.getfield 19, 3) := by decide +kernel
theorem dX10_refuse_4 : decode mX10_refuse.2.1 4 = .ok (.bipush (-2), 2) := by decide +kernel
theorem dX10_refuse_6 : decode mX10_refuse.2.1 6 = .ok (.iload_n 1, 1) := by decide +kernel
theorem dX10_refuse_7 : decode mX10_refuse.2.1 7 = .ok (.isub, 1) := by decide +kernel
theorem dX10_refuse_8 : decode mX10_refuse.2.1 8 = .ok (.dup2, 1) := by decide +kernel
theorem dX10_refuse_9 : decode mX10_refuse.2.1 9 = .ok (.iaload, 1) := by decide +kernel
theorem dX10_refuse_10 : decode mX10_refuse.2.1 10 = .ok (.iconst 1, 1) := by decide +kernel
theorem dX10_refuse_11 : decode mX10_refuse.2.1 11 = .ok (.iadd, 1) := by decide +kernel
theorem dX10_refuse_12 : decode mX10_refuse.2.1 12 = .ok (.iastore, 1) := by decide +kernel
theorem dX10_refuse_13 : decode mX10_refuse.2.1 13 = .ok (.iload_n 1, 1) := by decide +kernel
theorem dX10_refuse_14 : decode mX10_refuse.2.1 14 = .ok (.ireturn, 1) := by decide +kernel
theorem dX10_note_0 : decode mX10_note.2.1 0 = .ok (.aload_n 0, 1) := by decide +kernel
theorem dX10_note_1 : decode mX10_note.2.1 1 = .ok (.getfield 85, 3) := by decide +kernel
theorem dX10_note_4 : decode mX10_note.2.1 4 = .ok (.iconst 5, 1) := by decide +kernel
theorem dX10_note_5 : decode mX10_note.2.1 5 = .ok (.if_icmp .ne 44, 3) := by decide +kernel
theorem dX10_note_8 : decode mX10_note.2.1 8 = .ok (.iconst 0, 1) := by decide +kernel
theorem dX10_note_9 : decode mX10_note.2.1 9 = .ok (.istore_n 1, 1) := by decide +kernel
theorem dX10_note_10 : decode mX10_note.2.1 10 = .ok (.iload_n 1, 1) := by decide +kernel
theorem dX10_note_11 : decode mX10_note.2.1 11 = .ok (.sipush 532, 3) := by decide +kernel
theorem dX10_note_14 : decode mX10_note.2.1 14 = .ok (.if_icmp .ge 25, 3) := by decide +kernel
theorem dX10_note_17 : decode mX10_note.2.1 17 = .ok (.aload_n 0, 1) := by decide +kernel
theorem dX10_note_18 : decode mX10_note.2.1 18 = .ok (.getfield 16, 3) := by decide +kernel
theorem dX10_note_21 : decode mX10_note.2.1 21 = .ok (.iload_n 1, 1) := by decide +kernel
theorem dX10_note_22 : decode mX10_note.2.1 22 = .ok (.aload_n 0, 1) := by decide +kernel
theorem dX10_note_23 : decode mX10_note.2.1 23 = .ok (.getfield 16, 3) := by decide +kernel
theorem dX10_note_26 : decode mX10_note.2.1 26 = .ok (.iload_n 1, 1) := by decide +kernel
theorem dX10_note_27 : decode mX10_note.2.1 27 = .ok (.sipush 133, 3) := by decide +kernel
theorem dX10_note_30 : decode mX10_note.2.1 30 = .ok (.iadd, 1) := by decide +kernel
theorem dX10_note_31 : decode mX10_note.2.1 31 = .ok (.iaload, 1) := by decide +kernel
theorem dX10_note_32 : decode mX10_note.2.1 32 = .ok (.iastore, 1) := by decide +kernel
theorem dX10_note_33 : decode mX10_note.2.1 33 = .ok (.iinc 1 1, 3) := by decide +kernel
theorem dX10_note_36 : decode mX10_note.2.1 36 = .ok (.goto (-26), 3) := by decide +kernel
theorem dX10_note_39 : decode mX10_note.2.1 39 = .ok (.aload_n 0, 1) := by decide +kernel
theorem dX10_note_40 : decode mX10_note.2.1 40 = .ok (.dup, 1) := by decide +kernel
theorem dX10_note_41 : decode mX10_note.2.1 41 = .ok (.getfield 85, 3) := by decide +kernel
theorem dX10_note_44 : decode mX10_note.2.1 44 = .ok (.iconst 1, 1) := by decide +kernel
theorem dX10_note_45 : decode mX10_note.2.1 45 = .ok (.isub, 1) := by decide +kernel
theorem dX10_note_46 : decode mX10_note.2.1 46 = .ok (.putfield 85, 3) := by decide +kernel
theorem dX10_note_49 : decode mX10_note.2.1 49 = .ok (.aload_n 0, 1) := by decide +kernel
theorem dX10_note_50 : decode mX10_note.2.1 50 = .ok (.getfield 7, 3) := by decide +kernel
theorem dX10_note_53 : decode mX10_note.2.1 53 = .ok (.iconst 0, 1) := by decide +kernel
theorem dX10_note_54 : decode mX10_note.2.1 54 = .ok (.aload_n 0, 1) := by decide +kernel
theorem dX10_note_55 : decode mX10_note.2.1 55 = .ok (.getfield 16, 3) := by decide +kernel
theorem dX10_note_58 : decode mX10_note.2.1 58 = .ok (.sipush 133, 3) := by decide +kernel
theorem dX10_note_61 : decode mX10_note.2.1 61 = .ok (.aload_n 0, 1) := by decide +kernel
theorem dX10_note_62 : decode mX10_note.2.1 62 = .ok (.getfield 85, 3) := by decide +kernel
theorem dX10_note_65 : decode mX10_note.2.1 65 = .ok (.imul, 1) := by decide +kernel
theorem dX10_note_66 : decode mX10_note.2.1 66 = .ok (.invokestatic 89, 3) := by decide +kernel
theorem dX10_note_69 : decode mX10_note.2.1 69 = .ok (.aload_n 0, 1) := by decide +kernel
theorem dX10_note_70 : decode mX10_note.2.1 70 = .ok (.dup, 1) := by decide +kernel
theorem dX10_note_71 : decode mX10_note.2.1 71 = .ok (.getfield 85, 3) := by decide +kernel
theorem dX10_note_74 : decode mX10_note.2.1 74 = .ok (.iconst 1, 1) := by decide +kernel
theorem dX10_note_75 : decode mX10_note.2.1 75 = .ok (.iadd, 1) := by decide +kernel
theorem dX10_note_76 : decode mX10_note.2.1 76 = .ok (.putfield 85, 3) := by decide +kernel
theorem dX10_note_79 : decode mX10_note.2.1 79 = .ok (.return_, 1) := by decide +kernel
theorem dX10_isWordByte_0 : decode mX10_isWordByte.2.1 0 = .ok (.aload_n 0, 1) := by decide +kernel
theorem dX10_isWordByte_1 : decode mX10_isWordByte.2.1 1 = .ok (.getfield 93, 3) := by decide +kernel
theorem dX10_isWordByte_4 : decode mX10_isWordByte.2.1 4 = .ok (.aload_n 0, 1) := by decide +kernel
theorem dX10_isWordByte_5 : decode mX10_isWordByte.2.1 5 = .ok (.getfield 96, 3) := by decide +kernel
theorem dX10_isWordByte_8 : decode mX10_isWordByte.2.1 8 = .ok (.if_icmp .ge 26, 3) := by decide +kernel
theorem dX10_isWordByte_11 : decode mX10_isWordByte.2.1 11 = .ok (.aload_n 0, 1) := by decide +kernel
theorem dX10_isWordByte_12 : decode mX10_isWordByte.2.1 12 = .ok (.getfield 22, 3) := by decide +kernel
theorem dX10_isWordByte_15 : decode mX10_isWordByte.2.1 15 = .ok (.aload_n 0, 1) := by decide +kernel
theorem dX10_isWordByte_16 : decode mX10_isWordByte.2.1 16 = .ok (.getfield 93, 3) := by decide +kernel
theorem dX10_isWordByte_19 : decode mX10_isWordByte.2.1 19 = .ok (.iaload, 1) := by decide +kernel
theorem dX10_isWordByte_20 : decode mX10_isWordByte.2.1 20 = .ok (.bipush 97, 2) := by decide +kernel
theorem dX10_isWordByte_22 : decode mX10_isWordByte.2.1 22 = .ok (.bipush 122, 2) := by decide +kernel
theorem dX10_isWordByte_24 : decode mX10_isWordByte.2.1 24 = .ok (.invokestatic 99, 3) := by decide +kernel
theorem dX10_isWordByte_27 : decode mX10_isWordByte.2.1 27 = .ok (.ifCond .eq 7, 3) := by decide +kernel
theorem dX10_isWordByte_30 : decode mX10_isWordByte.2.1 30 = .ok (.iconst 1, 1) := by decide +kernel
theorem dX10_isWordByte_31 : decode mX10_isWordByte.2.1 31 = .ok (.goto 4, 3) := by decide +kernel
theorem dX10_isWordByte_34 : decode mX10_isWordByte.2.1 34 = .ok (.iconst 0, 1) := by decide +kernel
theorem dX10_isWordByte_35 : decode mX10_isWordByte.2.1 35 = .ok (.ireturn, 1) := by decide +kernel
theorem dX10_isWord_0 : decode mX10_isWord.2.1 0 = .ok (.aload_n 0, 1) := by decide +kernel
theorem dX10_isWord_1 : decode mX10_isWord.2.1 1 = .ok (.getfield 93, 3) := by decide +kernel
theorem dX10_isWord_4 : decode mX10_isWord.2.1 4 = .ok (.aload_n 0, 1) := by decide +kernel
theorem dX10_isWord_5 : decode mX10_isWord.2.1 5 = .ok (.getfield 103, 3) := by decide +kernel
theorem dX10_isWord_8 : decode mX10_isWord.2.1 8 = .ok (.isub, 1) := by decide +kernel
theorem dX10_isWord_9 : decode mX10_isWord.2.1 9 = .ok (.istore 5, 2) := by decide +kernel
theorem dX10_isWord_11 : decode mX10_isWord.2.1 11 = .ok (.iload 5, 2) := by decide +kernel
theorem dX10_isWord_13 : decode mX10_isWord.2.1 13 = .ok (.iload 4, 2) := by decide +kernel
theorem dX10_isWord_15 : decode mX10_isWord.2.1 15 = .ok (.ifCond .ne 7, 3) := by decide +kernel
theorem dX10_isWord_18 : decode mX10_isWord.2.1 18 = .ok (.iconst 3, 1) := by decide +kernel
theorem dX10_isWord_19 : decode mX10_isWord.2.1 19 = .ok (.goto 4, 3) := by decide +kernel
theorem dX10_isWord_22 : decode mX10_isWord.2.1 22 = .ok (.iconst 4, 1) := by decide +kernel
theorem dX10_isWord_23 : decode mX10_isWord.2.1 23 = .ok (.if_icmp .ne 50, 3) := by decide +kernel
theorem dX10_isWord_26 : decode mX10_isWord.2.1 26 = .ok (.aload_n 0, 1) := by decide +kernel
theorem dX10_isWord_27 : decode mX10_isWord.2.1 27 = .ok (.getfield 22, 3) := by decide +kernel
theorem dX10_isWord_30 : decode mX10_isWord.2.1 30 = .ok (.aload_n 0, 1) := by decide +kernel
theorem dX10_isWord_31 : decode mX10_isWord.2.1 31 = .ok (.getfield 103, 3) := by decide +kernel
theorem dX10_isWord_34 : decode mX10_isWord.2.1 34 = .ok (.iaload, 1) := by decide +kernel
theorem dX10_isWord_35 : decode mX10_isWord.2.1 35 = .ok (.iload_n 1, 1) := by decide +kernel
theorem dX10_isWord_36 : decode mX10_isWord.2.1 36 = .ok (.if_icmp .ne 37, 3) := by decide +kernel
theorem dX10_isWord_39 : decode mX10_isWord.2.1 39 = .ok (.aload_n 0, 1) := by decide +kernel
theorem dX10_isWord_40 : decode mX10_isWord.2.1 40 = .ok (.getfield 22, 3) := by decide +kernel
theorem dX10_isWord_43 : decode mX10_isWord.2.1 43 = .ok (.aload_n 0, 1) := by decide +kernel
theorem dX10_isWord_44 : decode mX10_isWord.2.1 44 = .ok (.getfield 103, 3) := by decide +kernel
theorem dX10_isWord_47 : decode mX10_isWord.2.1 47 = .ok (.iconst 1, 1) := by decide +kernel
theorem dX10_isWord_48 : decode mX10_isWord.2.1 48 = .ok (.iadd, 1) := by decide +kernel
theorem dX10_isWord_49 : decode mX10_isWord.2.1 49 = .ok (.iaload, 1) := by decide +kernel
theorem dX10_isWord_50 : decode mX10_isWord.2.1 50 = .ok (.iload_n 2, 1) := by decide +kernel
theorem dX10_isWord_51 : decode mX10_isWord.2.1 51 = .ok (.if_icmp .ne 22, 3) := by decide +kernel
theorem dX10_isWord_54 : decode mX10_isWord.2.1 54 = .ok (.aload_n 0, 1) := by decide +kernel
theorem dX10_isWord_55 : decode mX10_isWord.2.1 55 = .ok (.getfield 22, 3) := by decide +kernel
theorem dX10_isWord_58 : decode mX10_isWord.2.1 58 = .ok (.aload_n 0, 1) := by decide +kernel
theorem dX10_isWord_59 : decode mX10_isWord.2.1 59 = .ok (.getfield 103, 3) := by decide +kernel
theorem dX10_isWord_62 : decode mX10_isWord.2.1 62 = .ok (.iconst 2, 1) := by decide +kernel
theorem dX10_isWord_63 : decode mX10_isWord.2.1 63 = .ok (.iadd, 1) := by decide +kernel
theorem dX10_isWord_64 : decode mX10_isWord.2.1 64 = .ok (.iaload, 1) := by decide +kernel
theorem dX10_isWord_65 : decode mX10_isWord.2.1 65 = .ok (.iload_n 3, 1) := by decide +kernel
theorem dX10_isWord_66 : decode mX10_isWord.2.1 66 = .ok (.if_icmp .ne 7, 3) := by decide +kernel
theorem dX10_isWord_69 : decode mX10_isWord.2.1 69 = .ok (.iconst 1, 1) := by decide +kernel
theorem dX10_isWord_70 : decode mX10_isWord.2.1 70 = .ok (.goto 4, 3) := by decide +kernel
theorem dX10_isWord_73 : decode mX10_isWord.2.1 73 = .ok (.iconst 0, 1) := by decide +kernel
theorem dX10_isWord_74 : decode mX10_isWord.2.1 74 = .ok (.istore 6, 2) := by decide +kernel
theorem dX10_isWord_76 : decode mX10_isWord.2.1 76 = .ok (.iload 6, 2) := by decide +kernel
theorem dX10_isWord_78 : decode mX10_isWord.2.1 78 = .ok (.ifCond .eq 28, 3) := by decide +kernel
theorem dX10_isWord_81 : decode mX10_isWord.2.1 81 = .ok (.iload 4, 2) := by decide +kernel
theorem dX10_isWord_83 : decode mX10_isWord.2.1 83 = .ok (.ifCond .eq 19, 3) := by decide +kernel
theorem dX10_isWord_86 : decode mX10_isWord.2.1 86 = .ok (.aload_n 0, 1) := by decide +kernel
theorem dX10_isWord_87 : decode mX10_isWord.2.1 87 = .ok (.getfield 22, 3) := by decide +kernel
theorem dX10_isWord_90 : decode mX10_isWord.2.1 90 = .ok (.aload_n 0, 1) := by decide +kernel
theorem dX10_isWord_91 : decode mX10_isWord.2.1 91 = .ok (.getfield 103, 3) := by decide +kernel
theorem dX10_isWord_94 : decode mX10_isWord.2.1 94 = .ok (.iconst 3, 1) := by decide +kernel
theorem dX10_isWord_95 : decode mX10_isWord.2.1 95 = .ok (.iadd, 1) := by decide +kernel
theorem dX10_isWord_96 : decode mX10_isWord.2.1 96 = .ok (.iaload, 1) := by decide +kernel
theorem dX10_isWord_97 : decode mX10_isWord.2.1 97 = .ok (.iload 4, 2) := by decide +kernel
theorem dX10_isWord_99 : decode mX10_isWord.2.1 99 = .ok (.if_icmp .ne 7, 3) := by decide +kernel
theorem dX10_isWord_102 : decode mX10_isWord.2.1 102 = .ok (.iconst 1, 1) := by decide +kernel
theorem dX10_isWord_103 : decode mX10_isWord.2.1 103 = .ok (.goto 4, 3) := by decide +kernel
theorem dX10_isWord_106 : decode mX10_isWord.2.1 106 = .ok (.iconst 0, 1) := by decide +kernel
theorem dX10_isWord_107 : decode mX10_isWord.2.1 107 = .ok (.ireturn, 1) := by decide +kernel
theorem dX10_next_0 : decode mX10_next.2.1 0 = .ok (.aload_n 0, 1) := by decide +kernel
theorem dX10_next_1 : decode mX10_next.2.1 1 = .ok (.getfield 93, 3) := by decide +kernel
theorem dX10_next_4 : decode mX10_next.2.1 4 = .ok (.aload_n 0, 1) := by decide +kernel
theorem dX10_next_5 : decode mX10_next.2.1 5 = .ok (.getfield 96, 3) := by decide +kernel
theorem dX10_next_8 : decode mX10_next.2.1 8 = .ok (.if_icmp .ge 30, 3) := by decide +kernel
theorem dX10_next_11 : decode mX10_next.2.1 11 = .ok (.aload_n 0, 1) := by decide +kernel
theorem dX10_next_12 : decode mX10_next.2.1 12 = .ok (.getfield 22, 3) := by decide +kernel
theorem dX10_next_15 : decode mX10_next.2.1 15 = .ok (.aload_n 0, 1) := by decide +kernel
theorem dX10_next_16 : decode mX10_next.2.1 16 = .ok (.getfield 93, 3) := by decide +kernel
theorem dX10_next_19 : decode mX10_next.2.1 19 = .ok (.iaload, 1) := by decide +kernel
theorem dX10_next_20 : decode mX10_next.2.1 20 = .ok (.bipush 32, 2) := by decide +kernel
theorem dX10_next_22 : decode mX10_next.2.1 22 = .ok (.if_icmp .ne 16, 3) := by decide +kernel
theorem dX10_next_25 : decode mX10_next.2.1 25 = .ok (.aload_n 0, 1) := by decide +kernel
theorem dX10_next_26 : decode mX10_next.2.1 26 = .ok (.dup, 1) := by decide +kernel
theorem dX10_next_27 : decode mX10_next.2.1 27 = .ok (.getfield 93, 3) := by decide +kernel
theorem dX10_next_30 : decode mX10_next.2.1 30 = .ok (.iconst 1, 1) := by decide +kernel
theorem dX10_next_31 : decode mX10_next.2.1 31 = .ok (.iadd, 1) := by decide +kernel
theorem dX10_next_32 : decode mX10_next.2.1 32 = .ok (.putfield 93, 3) := by decide +kernel
theorem dX10_next_35 : decode mX10_next.2.1 35 = .ok (.goto (-35), 3) := by decide +kernel
theorem dX10_next_38 : decode mX10_next.2.1 38 = .ok (.aload_n 0, 1) := by decide +kernel
theorem dX10_next_39 : decode mX10_next.2.1 39 = .ok (.aload_n 0, 1) := by decide +kernel
theorem dX10_next_40 : decode mX10_next.2.1 40 = .ok (.getfield 93, 3) := by decide +kernel
theorem dX10_next_43 : decode mX10_next.2.1 43 = .ok (.putfield 103, 3) := by decide +kernel
theorem dX10_next_46 : decode mX10_next.2.1 46 = .ok (.aload_n 0, 1) := by decide +kernel
theorem dX10_next_47 : decode mX10_next.2.1 47 = .ok (.getfield 93, 3) := by decide +kernel
theorem dX10_next_50 : decode mX10_next.2.1 50 = .ok (.aload_n 0, 1) := by decide +kernel
theorem dX10_next_51 : decode mX10_next.2.1 51 = .ok (.getfield 96, 3) := by decide +kernel
theorem dX10_next_54 : decode mX10_next.2.1 54 = .ok (.if_icmp .ne 11, 3) := by decide +kernel
theorem dX10_next_57 : decode mX10_next.2.1 57 = .ok (.aload_n 0, 1) := by decide +kernel
theorem dX10_next_58 : decode mX10_next.2.1 58 = .ok (.sipush 1000, 3) := by decide +kernel
theorem dX10_next_61 : decode mX10_next.2.1 61 = .ok (.putfield 106, 3) := by decide +kernel
theorem dX10_next_64 : decode mX10_next.2.1 64 = .ok (.return_, 1) := by decide +kernel
theorem dX10_next_65 : decode mX10_next.2.1 65 = .ok (.aload_n 0, 1) := by decide +kernel
theorem dX10_next_66 : decode mX10_next.2.1 66 = .ok (.invokevirtual 109, 3) := by decide +kernel
theorem dX10_next_69 : decode mX10_next.2.1 69 = .ok (.ifCond .ne 27, 3) := by decide +kernel
theorem dX10_next_72 : decode mX10_next.2.1 72 = .ok (.aload_n 0, 1) := by decide +kernel
theorem dX10_next_73 : decode mX10_next.2.1 73 = .ok (.aload_n 0, 1) := by decide +kernel
theorem dX10_next_74 : decode mX10_next.2.1 74 = .ok (.getfield 22, 3) := by decide +kernel
theorem dX10_next_77 : decode mX10_next.2.1 77 = .ok (.aload_n 0, 1) := by decide +kernel
theorem dX10_next_78 : decode mX10_next.2.1 78 = .ok (.getfield 93, 3) := by decide +kernel
theorem dX10_next_81 : decode mX10_next.2.1 81 = .ok (.iaload, 1) := by decide +kernel
theorem dX10_next_82 : decode mX10_next.2.1 82 = .ok (.putfield 106, 3) := by decide +kernel
theorem dX10_next_85 : decode mX10_next.2.1 85 = .ok (.aload_n 0, 1) := by decide +kernel
theorem dX10_next_86 : decode mX10_next.2.1 86 = .ok (.dup, 1) := by decide +kernel
theorem dX10_next_87 : decode mX10_next.2.1 87 = .ok (.getfield 93, 3) := by decide +kernel
theorem dX10_next_90 : decode mX10_next.2.1 90 = .ok (.iconst 1, 1) := by decide +kernel
theorem dX10_next_91 : decode mX10_next.2.1 91 = .ok (.iadd, 1) := by decide +kernel
theorem dX10_next_92 : decode mX10_next.2.1 92 = .ok (.putfield 93, 3) := by decide +kernel
theorem dX10_next_95 : decode mX10_next.2.1 95 = .ok (.return_, 1) := by decide +kernel
theorem dX10_next_96 : decode mX10_next.2.1 96 = .ok (.aload_n 0, 1) := by decide +kernel
theorem dX10_next_97 : decode mX10_next.2.1 97 = .ok (.invokevirtual 109, 3) := by decide +kernel
theorem dX10_next_100 : decode mX10_next.2.1 100 = .ok (.ifCond .eq 16, 3) := by decide +kernel
theorem dX10_next_103 : decode mX10_next.2.1 103 = .ok (.aload_n 0, 1) := by decide +kernel
theorem dX10_next_104 : decode mX10_next.2.1 104 = .ok (.dup, 1) := by decide +kernel
theorem dX10_next_105 : decode mX10_next.2.1 105 = .ok (.getfield 93, 3) := by decide +kernel
theorem dX10_next_108 : decode mX10_next.2.1 108 = .ok (.iconst 1, 1) := by decide +kernel
theorem dX10_next_109 : decode mX10_next.2.1 109 = .ok (.iadd, 1) := by decide +kernel
theorem dX10_next_110 : decode mX10_next.2.1 110 = .ok (.putfield 93, 3) := by decide +kernel
theorem dX10_next_113 : decode mX10_next.2.1 113 = .ok (.goto (-17), 3) := by decide +kernel
theorem dX10_next_116 : decode mX10_next.2.1 116 = .ok (.aload_n 0, 1) := by decide +kernel
theorem dX10_next_117 : decode mX10_next.2.1 117 = .ok (.aload_n 0, 1) := by decide +kernel
theorem dX10_next_118 : decode mX10_next.2.1 118 = .ok (.getfield 93, 3) := by decide +kernel
theorem dX10_next_121 : decode mX10_next.2.1 121 = .ok (.aload_n 0, 1) := by decide +kernel
theorem dX10_next_122 : decode mX10_next.2.1 122 = .ok (.getfield 103, 3) := by decide +kernel
theorem dX10_next_125 : decode mX10_next.2.1 125 = .ok (.iconst 1, 1) := by decide +kernel
theorem dX10_next_126 : decode mX10_next.2.1 126 = .ok (.iadd, 1) := by decide +kernel
theorem dX10_next_127 : decode mX10_next.2.1 127 = .ok (.if_icmp .ne 15, 3) := by decide +kernel
theorem dX10_next_130 : decode mX10_next.2.1 130 = .ok (.aload_n 0, 1) := by decide +kernel
theorem dX10_next_131 : decode mX10_next.2.1 131 = .ok (.getfield 22, 3) := by decide +kernel
theorem dX10_next_134 : decode mX10_next.2.1 134 = .ok (.aload_n 0, 1) := by decide +kernel
theorem dX10_next_135 : decode mX10_next.2.1 135 = .ok (.getfield 103, 3) := by decide +kernel
theorem dX10_next_138 : decode mX10_next.2.1 138 = .ok (.iaload, 1) := by decide +kernel
theorem dX10_next_139 : decode mX10_next.2.1 139 = .ok (.goto 47, 3) := by decide +kernel
theorem dX10_next_142 : decode mX10_next.2.1 142 = .ok (.aload_n 0, 1) := by decide +kernel
theorem dX10_next_143 : decode mX10_next.2.1 143 = .ok (.bipush 110, 2) := by decide +kernel
theorem dX10_next_145 : decode mX10_next.2.1 145 = .ok (.bipush 101, 2) := by decide +kernel
theorem dX10_next_147 : decode mX10_next.2.1 147 = .ok (.bipush 119, 2) := by decide +kernel
theorem dX10_next_149 : decode mX10_next.2.1 149 = .ok (.iconst 0, 1) := by decide +kernel
theorem dX10_next_150 : decode mX10_next.2.1 150 = .ok (.invokevirtual 113, 3) := by decide +kernel
theorem dX10_next_153 : decode mX10_next.2.1 153 = .ok (.ifCond .eq 9, 3) := by decide +kernel
theorem dX10_next_156 : decode mX10_next.2.1 156 = .ok (.sipush 1001, 3) := by decide +kernel
theorem dX10_next_159 : decode mX10_next.2.1 159 = .ok (.goto 27, 3) := by decide +kernel
theorem dX10_next_162 : decode mX10_next.2.1 162 = .ok (.aload_n 0, 1) := by decide +kernel
theorem dX10_next_163 : decode mX10_next.2.1 163 = .ok (.bipush 108, 2) := by decide +kernel
theorem dX10_next_165 : decode mX10_next.2.1 165 = .ok (.bipush 111, 2) := by decide +kernel
theorem dX10_next_167 : decode mX10_next.2.1 167 = .ok (.bipush 99, 2) := by decide +kernel
theorem dX10_next_169 : decode mX10_next.2.1 169 = .ok (.bipush 107, 2) := by decide +kernel
theorem dX10_next_171 : decode mX10_next.2.1 171 = .ok (.invokevirtual 113, 3) := by decide +kernel
theorem dX10_next_174 : decode mX10_next.2.1 174 = .ok (.ifCond .eq 9, 3) := by decide +kernel
theorem dX10_next_177 : decode mX10_next.2.1 177 = .ok (.sipush 1002, 3) := by decide +kernel
theorem dX10_next_180 : decode mX10_next.2.1 180 = .ok (.goto 6, 3) := by decide +kernel
theorem dX10_next_183 : decode mX10_next.2.1 183 = .ok (.sipush 1003, 3) := by decide +kernel
theorem dX10_next_186 : decode mX10_next.2.1 186 = .ok (.putfield 106, 3) := by decide +kernel
theorem dX10_next_189 : decode mX10_next.2.1 189 = .ok (.return_, 1) := by decide +kernel
theorem dX10_isNext_0 : decode mX10_isNext.2.1 0 = .ok (.aload_n 0, 1) := by decide +kernel
theorem dX10_isNext_1 : decode mX10_isNext.2.1 1 = .ok (.invokevirtual 117, 3) := by decide +kernel
theorem dX10_isNext_4 : decode mX10_isNext.2.1 4 = .ok (.aload_n 0, 1) := by decide +kernel
theorem dX10_isNext_5 : decode mX10_isNext.2.1 5 = .ok (.getfield 106, 3) := by decide +kernel
theorem dX10_isNext_8 : decode mX10_isNext.2.1 8 = .ok (.iload_n 1, 1) := by decide +kernel
theorem dX10_isNext_9 : decode mX10_isNext.2.1 9 = .ok (.if_icmp .ne 7, 3) := by decide +kernel
theorem dX10_isNext_12 : decode mX10_isNext.2.1 12 = .ok (.iconst 1, 1) := by decide +kernel
theorem dX10_isNext_13 : decode mX10_isNext.2.1 13 = .ok (.goto 4, 3) := by decide +kernel
theorem dX10_isNext_16 : decode mX10_isNext.2.1 16 = .ok (.iconst 0, 1) := by decide +kernel
theorem dX10_isNext_17 : decode mX10_isNext.2.1 17 = .ok (.ireturn, 1) := by decide +kernel
theorem dX10_nameOf_0 : decode mX10_nameOf.2.1 0 = .ok (.iload_n 0, 1) := by decide +kernel
theorem dX10_nameOf_1 : decode mX10_nameOf.2.1 1 = .ok (.bipush 112, 2) := by decide +kernel
theorem dX10_nameOf_3 : decode mX10_nameOf.2.1 3 = .ok (.if_icmp .ne 7, 3) := by decide +kernel
theorem dX10_nameOf_6 : decode mX10_nameOf.2.1 6 = .ok (.iconst 0, 1) := by decide +kernel
theorem dX10_nameOf_7 : decode mX10_nameOf.2.1 7 = .ok (.goto 34, 3) := by decide +kernel
theorem dX10_nameOf_10 : decode mX10_nameOf.2.1 10 = .ok (.iload_n 0, 1) := by decide +kernel
theorem dX10_nameOf_11 : decode mX10_nameOf.2.1 11 = .ok (.bipush 97, 2) := by decide +kernel
theorem dX10_nameOf_13 : decode mX10_nameOf.2.1 13 = .ok (.if_icmp .ne 7, 3) := by decide +kernel
theorem dX10_nameOf_16 : decode mX10_nameOf.2.1 16 = .ok (.iconst 1, 1) := by decide +kernel
theorem dX10_nameOf_17 : decode mX10_nameOf.2.1 17 = .ok (.goto 24, 3) := by decide +kernel
theorem dX10_nameOf_20 : decode mX10_nameOf.2.1 20 = .ok (.iload_n 0, 1) := by decide +kernel
theorem dX10_nameOf_21 : decode mX10_nameOf.2.1 21 = .ok (.bipush 98, 2) := by decide +kernel
theorem dX10_nameOf_23 : decode mX10_nameOf.2.1 23 = .ok (.if_icmp .ne 7, 3) := by decide +kernel
theorem dX10_nameOf_26 : decode mX10_nameOf.2.1 26 = .ok (.iconst 2, 1) := by decide +kernel
theorem dX10_nameOf_27 : decode mX10_nameOf.2.1 27 = .ok (.goto 14, 3) := by decide +kernel
theorem dX10_nameOf_30 : decode mX10_nameOf.2.1 30 = .ok (.iload_n 0, 1) := by decide +kernel
theorem dX10_nameOf_31 : decode mX10_nameOf.2.1 31 = .ok (.bipush 114, 2) := by decide +kernel
theorem dX10_nameOf_33 : decode mX10_nameOf.2.1 33 = .ok (.if_icmp .ne 7, 3) := by decide +kernel
theorem dX10_nameOf_36 : decode mX10_nameOf.2.1 36 = .ok (.iconst 3, 1) := by decide +kernel
theorem dX10_nameOf_37 : decode mX10_nameOf.2.1 37 = .ok (.goto 4, 3) := by decide +kernel
theorem dX10_nameOf_40 : decode mX10_nameOf.2.1 40 = .ok (.iconst (-1), 1) := by decide +kernel
theorem dX10_nameOf_41 : decode mX10_nameOf.2.1 41 = .ok (.ireturn, 1) := by decide +kernel
theorem dX10_nextName_0 : decode mX10_nextName.2.1 0 = .ok (.aload_n 0, 1) := by decide +kernel
theorem dX10_nextName_1 : decode mX10_nextName.2.1 1 = .ok (.invokevirtual 117, 3) := by decide +kernel
theorem dX10_nextName_4 : decode mX10_nextName.2.1 4 = .ok (.aload_n 0, 1) := by decide +kernel
theorem dX10_nextName_5 : decode mX10_nextName.2.1 5 = .ok (.getfield 106, 3) := by decide +kernel
theorem dX10_nextName_8 : decode mX10_nextName.2.1 8 = .ok (.invokestatic 120, 3) := by decide +kernel
theorem dX10_nextName_11 : decode mX10_nextName.2.1 11 = .ok (.ireturn, 1) := by decide +kernel
theorem dX10_readRight_0 : decode mX10_readRight.2.1 0 = .ok (.aload_n 0, 1) := by decide +kernel
theorem dX10_readRight_1 : decode mX10_readRight.2.1 1 = .ok (.invokevirtual 117, 3) := by decide +kernel
theorem dX10_readRight_4 : decode mX10_readRight.2.1 4 = .ok (.aload_n 0, 1) := by decide +kernel
theorem dX10_readRight_5 : decode mX10_readRight.2.1 5 = .ok (.aload_n 0, 1) := by decide +kernel
theorem dX10_readRight_6 : decode mX10_readRight.2.1 6 = .ok (.getfield 106, 3) := by decide +kernel
theorem dX10_readRight_9 : decode mX10_readRight.2.1 9 = .ok (.invokestatic 120, 3) := by decide +kernel
theorem dX10_readRight_12 : decode mX10_readRight.2.1 12 = .ok (.putfield 124, 3) := by decide +kernel
theorem dX10_readRight_15 : decode mX10_readRight.2.1 15 = .ok (.aload_n 0, 1) := by decide +kernel
theorem dX10_readRight_16 : decode mX10_readRight.2.1 16 = .ok (.getfield 106, 3) := by decide +kernel
theorem dX10_readRight_19 : decode mX10_readRight.2.1 19 = .ok (.sipush 1001, 3) := by decide +kernel
theorem dX10_readRight_22 : decode mX10_readRight.2.1 22 = .ok (.if_icmp .eq 12, 3) := by decide +kernel
theorem dX10_readRight_25 : decode mX10_readRight.2.1 25 = .ok (.aload_n 0, 1) := by decide +kernel
theorem dX10_readRight_26 : decode mX10_readRight.2.1 26 = .ok (.getfield 106, 3) := by decide +kernel
theorem dX10_readRight_29 : decode mX10_readRight.2.1 29 = .ok (.bipush 71, 2) := by decide +kernel
theorem dX10_readRight_31 : decode mX10_readRight.2.1 31 = .ok (.if_icmp .ne 28, 3) := by decide +kernel
theorem dX10_readRight_34 : decode mX10_readRight.2.1 34 = .ok (.aload_n 0, 1) := by decide +kernel
theorem dX10_readRight_35 : decode mX10_readRight.2.1 35 = .ok (.aload_n 0, 1) := by decide +kernel
theorem dX10_readRight_36 : decode mX10_readRight.2.1 36 = .ok (.getfield 106, 3) := by decide +kernel
theorem dX10_readRight_39 : decode mX10_readRight.2.1 39 = .ok (.sipush 1001, 3) := by decide +kernel
theorem dX10_readRight_42 : decode mX10_readRight.2.1 42 = .ok (.if_icmp .ne 7, 3) := by decide +kernel
theorem dX10_readRight_45 : decode mX10_readRight.2.1 45 = .ok (.iconst 0, 1) := by decide +kernel
theorem dX10_readRight_46 : decode mX10_readRight.2.1 46 = .ok (.goto 4, 3) := by decide +kernel
theorem dX10_readRight_49 : decode mX10_readRight.2.1 49 = .ok (.iconst 5, 1) := by decide +kernel
theorem dX10_readRight_50 : decode mX10_readRight.2.1 50 = .ok (.putfield 127, 3) := by decide +kernel
theorem dX10_readRight_53 : decode mX10_readRight.2.1 53 = .ok (.aload_n 0, 1) := by decide +kernel
theorem dX10_readRight_54 : decode mX10_readRight.2.1 54 = .ok (.invokevirtual 117, 3) := by decide +kernel
theorem dX10_readRight_57 : decode mX10_readRight.2.1 57 = .ok (.iconst 1, 1) := by decide +kernel
theorem dX10_readRight_58 : decode mX10_readRight.2.1 58 = .ok (.ireturn, 1) := by decide +kernel
theorem dX10_readRight_59 : decode mX10_readRight.2.1 59 = .ok (.aload_n 0, 1) := by decide +kernel
theorem dX10_readRight_60 : decode mX10_readRight.2.1 60 = .ok (.getfield 106, 3) := by decide +kernel
theorem dX10_readRight_63 : decode mX10_readRight.2.1 63 = .ok (.bipush 48, 2) := by decide +kernel
theorem dX10_readRight_65 : decode mX10_readRight.2.1 65 = .ok (.bipush 51, 2) := by decide +kernel
theorem dX10_readRight_67 : decode mX10_readRight.2.1 67 = .ok (.invokestatic 99, 3) := by decide +kernel
theorem dX10_readRight_70 : decode mX10_readRight.2.1 70 = .ok (.ifCond .eq 110, 3) := by decide +kernel
theorem dX10_readRight_73 : decode mX10_readRight.2.1 73 = .ok (.aload_n 0, 1) := by decide +kernel
theorem dX10_readRight_74 : decode mX10_readRight.2.1 74 = .ok (.bipush 7, 2) := by decide +kernel
theorem dX10_readRight_76 : decode mX10_readRight.2.1 76 = .ok (.putfield 127, 3) := by decide +kernel
theorem dX10_readRight_79 : decode mX10_readRight.2.1 79 = .ok (.aload_n 0, 1) := by decide +kernel
theorem dX10_readRight_80 : decode mX10_readRight.2.1 80 = .ok (.aload_n 0, 1) := by decide +kernel
theorem dX10_readRight_81 : decode mX10_readRight.2.1 81 = .ok (.getfield 106, 3) := by decide +kernel
theorem dX10_readRight_84 : decode mX10_readRight.2.1 84 = .ok (.bipush 48, 2) := by decide +kernel
theorem dX10_readRight_86 : decode mX10_readRight.2.1 86 = .ok (.isub, 1) := by decide +kernel
theorem dX10_readRight_87 : decode mX10_readRight.2.1 87 = .ok (.putfield 130, 3) := by decide +kernel
theorem dX10_readRight_90 : decode mX10_readRight.2.1 90 = .ok (.aload_n 0, 1) := by decide +kernel
theorem dX10_readRight_91 : decode mX10_readRight.2.1 91 = .ok (.getfield 130, 3) := by decide +kernel
theorem dX10_readRight_94 : decode mX10_readRight.2.1 94 = .ok (.iload_n 1, 1) := by decide +kernel
theorem dX10_readRight_95 : decode mX10_readRight.2.1 95 = .ok (.if_icmp .gt 5, 3) := by decide +kernel
theorem dX10_readRight_98 : decode mX10_readRight.2.1 98 = .ok (.iconst 0, 1) := by decide +kernel
theorem dX10_readRight_99 : decode mX10_readRight.2.1 99 = .ok (.ireturn, 1) := by decide +kernel
theorem dX10_readRight_100 : decode mX10_readRight.2.1 100 = .ok (.aload_n 0, 1) := by decide +kernel
theorem dX10_readRight_101 : decode mX10_readRight.2.1 101 = .ok (.getfield 25, 3) := by decide +kernel
theorem dX10_readRight_104 : decode mX10_readRight.2.1 104 = .ok (.aload_n 0, 1) := by decide +kernel
theorem dX10_readRight_105 : decode mX10_readRight.2.1 105 = .ok (.getfield 133, 3) := by decide +kernel
theorem dX10_readRight_108 : decode mX10_readRight.2.1 108 = .ok (.aload_n 0, 1) := by decide +kernel
theorem dX10_readRight_109 : decode mX10_readRight.2.1 109 = .ok (.getfield 130, 3) := by decide +kernel
theorem dX10_readRight_112 : decode mX10_readRight.2.1 112 = .ok (.iastore, 1) := by decide +kernel
theorem dX10_readRight_113 : decode mX10_readRight.2.1 113 = .ok (.aload_n 0, 1) := by decide +kernel
theorem dX10_readRight_114 : decode mX10_readRight.2.1 114 = .ok (.getfield 28, 3) := by decide +kernel
theorem dX10_readRight_117 : decode mX10_readRight.2.1 117 = .ok (.aload_n 0, 1) := by decide +kernel
theorem dX10_readRight_118 : decode mX10_readRight.2.1 118 = .ok (.getfield 133, 3) := by decide +kernel
theorem dX10_readRight_121 : decode mX10_readRight.2.1 121 = .ok (.aload_n 0, 1) := by decide +kernel
theorem dX10_readRight_122 : decode mX10_readRight.2.1 122 = .ok (.getfield 103, 3) := by decide +kernel
theorem dX10_readRight_125 : decode mX10_readRight.2.1 125 = .ok (.iastore, 1) := by decide +kernel
theorem dX10_readRight_126 : decode mX10_readRight.2.1 126 = .ok (.aload_n 0, 1) := by decide +kernel
theorem dX10_readRight_127 : decode mX10_readRight.2.1 127 = .ok (.dup, 1) := by decide +kernel
theorem dX10_readRight_128 : decode mX10_readRight.2.1 128 = .ok (.getfield 133, 3) := by decide +kernel
theorem dX10_readRight_131 : decode mX10_readRight.2.1 131 = .ok (.iconst 1, 1) := by decide +kernel
theorem dX10_readRight_132 : decode mX10_readRight.2.1 132 = .ok (.iadd, 1) := by decide +kernel
theorem dX10_readRight_133 : decode mX10_readRight.2.1 133 = .ok (.putfield 133, 3) := by decide +kernel
theorem dX10_readRight_136 : decode mX10_readRight.2.1 136 = .ok (.aload_n 0, 1) := by decide +kernel
theorem dX10_readRight_137 : decode mX10_readRight.2.1 137 = .ok (.bipush 40, 2) := by decide +kernel
theorem dX10_readRight_139 : decode mX10_readRight.2.1 139 = .ok (.invokevirtual 136, 3) := by decide +kernel
theorem dX10_readRight_142 : decode mX10_readRight.2.1 142 = .ok (.ifCond .ne 5, 3) := by decide +kernel
theorem dX10_readRight_145 : decode mX10_readRight.2.1 145 = .ok (.iconst 0, 1) := by decide +kernel
theorem dX10_readRight_146 : decode mX10_readRight.2.1 146 = .ok (.ireturn, 1) := by decide +kernel
theorem dX10_readRight_147 : decode mX10_readRight.2.1 147 = .ok (.aload_n 0, 1) := by decide +kernel
theorem dX10_readRight_148 : decode mX10_readRight.2.1 148 = .ok (.aload_n 0, 1) := by decide +kernel
theorem dX10_readRight_149 : decode mX10_readRight.2.1 149 = .ok (.invokevirtual 140, 3) := by decide +kernel
theorem dX10_readRight_152 : decode mX10_readRight.2.1 152 = .ok (.putfield 124, 3) := by decide +kernel
theorem dX10_readRight_155 : decode mX10_readRight.2.1 155 = .ok (.aload_n 0, 1) := by decide +kernel
theorem dX10_readRight_156 : decode mX10_readRight.2.1 156 = .ok (.getfield 124, 3) := by decide +kernel
theorem dX10_readRight_159 : decode mX10_readRight.2.1 159 = .ok (.iconst (-1), 1) := by decide +kernel
theorem dX10_readRight_160 : decode mX10_readRight.2.1 160 = .ok (.if_icmp .eq 12, 3) := by decide +kernel
theorem dX10_readRight_163 : decode mX10_readRight.2.1 163 = .ok (.aload_n 0, 1) := by decide +kernel
theorem dX10_readRight_164 : decode mX10_readRight.2.1 164 = .ok (.bipush 41, 2) := by decide +kernel
theorem dX10_readRight_166 : decode mX10_readRight.2.1 166 = .ok (.invokevirtual 136, 3) := by decide +kernel
theorem dX10_readRight_169 : decode mX10_readRight.2.1 169 = .ok (.ifCond .ne 5, 3) := by decide +kernel
theorem dX10_readRight_172 : decode mX10_readRight.2.1 172 = .ok (.iconst 0, 1) := by decide +kernel
theorem dX10_readRight_173 : decode mX10_readRight.2.1 173 = .ok (.ireturn, 1) := by decide +kernel
theorem dX10_readRight_174 : decode mX10_readRight.2.1 174 = .ok (.aload_n 0, 1) := by decide +kernel
theorem dX10_readRight_175 : decode mX10_readRight.2.1 175 = .ok (.invokevirtual 117, 3) := by decide +kernel
theorem dX10_readRight_178 : decode mX10_readRight.2.1 178 = .ok (.iconst 1, 1) := by decide +kernel
theorem dX10_readRight_179 : decode mX10_readRight.2.1 179 = .ok (.ireturn, 1) := by decide +kernel
theorem dX10_readRight_180 : decode mX10_readRight.2.1 180 = .ok (.aload_n 0, 1) := by decide +kernel
theorem dX10_readRight_181 : decode mX10_readRight.2.1 181 = .ok (.getfield 124, 3) := by decide +kernel
theorem dX10_readRight_184 : decode mX10_readRight.2.1 184 = .ok (.iconst (-1), 1) := by decide +kernel
theorem dX10_readRight_185 : decode mX10_readRight.2.1 185 = .ok (.if_icmp .ne 5, 3) := by decide +kernel
theorem dX10_readRight_188 : decode mX10_readRight.2.1 188 = .ok (.iconst 0, 1) := by decide +kernel
theorem dX10_readRight_189 : decode mX10_readRight.2.1 189 = .ok (.ireturn, 1) := by decide +kernel
theorem dX10_readRight_190 : decode mX10_readRight.2.1 190 = .ok (.aload_n 0, 1) := by decide +kernel
theorem dX10_readRight_191 : decode mX10_readRight.2.1 191 = .ok (.invokevirtual 117, 3) := by decide +kernel
theorem dX10_readRight_194 : decode mX10_readRight.2.1 194 = .ok (.aload_n 0, 1) := by decide +kernel
theorem dX10_readRight_195 : decode mX10_readRight.2.1 195 = .ok (.aload_n 0, 1) := by decide +kernel
theorem dX10_readRight_196 : decode mX10_readRight.2.1 196 = .ok (.getfield 106, 3) := by decide +kernel
theorem dX10_readRight_199 : decode mX10_readRight.2.1 199 = .ok (.bipush 46, 2) := by decide +kernel
theorem dX10_readRight_201 : decode mX10_readRight.2.1 201 = .ok (.if_icmp .ne 7, 3) := by decide +kernel
theorem dX10_readRight_204 : decode mX10_readRight.2.1 204 = .ok (.iconst 3, 1) := by decide +kernel
theorem dX10_readRight_205 : decode mX10_readRight.2.1 205 = .ok (.goto 4, 3) := by decide +kernel
theorem dX10_readRight_208 : decode mX10_readRight.2.1 208 = .ok (.iconst 1, 1) := by decide +kernel
theorem dX10_readRight_209 : decode mX10_readRight.2.1 209 = .ok (.putfield 127, 3) := by decide +kernel
theorem dX10_readRight_212 : decode mX10_readRight.2.1 212 = .ok (.aload_n 0, 1) := by decide +kernel
theorem dX10_readRight_213 : decode mX10_readRight.2.1 213 = .ok (.getfield 127, 3) := by decide +kernel
theorem dX10_readRight_216 : decode mX10_readRight.2.1 216 = .ok (.iconst 3, 1) := by decide +kernel
theorem dX10_readRight_217 : decode mX10_readRight.2.1 217 = .ok (.if_icmp .ne 18, 3) := by decide +kernel
theorem dX10_readRight_220 : decode mX10_readRight.2.1 220 = .ok (.aload_n 0, 1) := by decide +kernel
theorem dX10_readRight_221 : decode mX10_readRight.2.1 221 = .ok (.bipush 102, 2) := by decide +kernel
theorem dX10_readRight_223 : decode mX10_readRight.2.1 223 = .ok (.invokevirtual 136, 3) := by decide +kernel
theorem dX10_readRight_226 : decode mX10_readRight.2.1 226 = .ok (.ifCond .ne 5, 3) := by decide +kernel
theorem dX10_readRight_229 : decode mX10_readRight.2.1 229 = .ok (.iconst 0, 1) := by decide +kernel
theorem dX10_readRight_230 : decode mX10_readRight.2.1 230 = .ok (.ireturn, 1) := by decide +kernel
theorem dX10_readRight_231 : decode mX10_readRight.2.1 231 = .ok (.aload_n 0, 1) := by decide +kernel
theorem dX10_readRight_232 : decode mX10_readRight.2.1 232 = .ok (.invokevirtual 117, 3) := by decide +kernel
theorem dX10_readRight_235 : decode mX10_readRight.2.1 235 = .ok (.iconst 1, 1) := by decide +kernel
theorem dX10_readRight_236 : decode mX10_readRight.2.1 236 = .ok (.ireturn, 1) := by decide +kernel
theorem dX10_readLine_0 : decode mX10_readLine.2.1 0 = .ok (.aload_n 0, 1) := by decide +kernel
theorem dX10_readLine_1 : decode mX10_readLine.2.1 1 = .ok (.iconst (-1), 1) := by decide +kernel
theorem dX10_readLine_2 : decode mX10_readLine.2.1 2 = .ok (.putfield 124, 3) := by decide +kernel
theorem dX10_readLine_5 : decode mX10_readLine.2.1 5 = .ok (.aload_n 0, 1) := by decide +kernel
theorem dX10_readLine_6 : decode mX10_readLine.2.1 6 = .ok (.iconst (-1), 1) := by decide +kernel
theorem dX10_readLine_7 : decode mX10_readLine.2.1 7 = .ok (.putfield 130, 3) := by decide +kernel
theorem dX10_readLine_10 : decode mX10_readLine.2.1 10 = .ok (.aload_n 0, 1) := by decide +kernel
theorem dX10_readLine_11 : decode mX10_readLine.2.1 11 = .ok (.aload_n 0, 1) := by decide +kernel
theorem dX10_readLine_12 : decode mX10_readLine.2.1 12 = .ok (.getfield 106, 3) := by decide +kernel
theorem dX10_readLine_15 : decode mX10_readLine.2.1 15 = .ok (.invokestatic 120, 3) := by decide +kernel
theorem dX10_readLine_18 : decode mX10_readLine.2.1 18 = .ok (.putfield 144, 3) := by decide +kernel
theorem dX10_readLine_21 : decode mX10_readLine.2.1 21 = .ok (.aload_n 0, 1) := by decide +kernel
theorem dX10_readLine_22 : decode mX10_readLine.2.1 22 = .ok (.getfield 106, 3) := by decide +kernel
theorem dX10_readLine_25 : decode mX10_readLine.2.1 25 = .ok (.sipush 1002, 3) := by decide +kernel
theorem dX10_readLine_28 : decode mX10_readLine.2.1 28 = .ok (.if_icmp .ne 40, 3) := by decide +kernel
theorem dX10_readLine_31 : decode mX10_readLine.2.1 31 = .ok (.aload_n 0, 1) := by decide +kernel
theorem dX10_readLine_32 : decode mX10_readLine.2.1 32 = .ok (.bipush 6, 2) := by decide +kernel
theorem dX10_readLine_34 : decode mX10_readLine.2.1 34 = .ok (.putfield 127, 3) := by decide +kernel
theorem dX10_readLine_37 : decode mX10_readLine.2.1 37 = .ok (.aload_n 0, 1) := by decide +kernel
theorem dX10_readLine_38 : decode mX10_readLine.2.1 38 = .ok (.aload_n 0, 1) := by decide +kernel
theorem dX10_readLine_39 : decode mX10_readLine.2.1 39 = .ok (.invokevirtual 140, 3) := by decide +kernel
theorem dX10_readLine_42 : decode mX10_readLine.2.1 42 = .ok (.putfield 144, 3) := by decide +kernel
theorem dX10_readLine_45 : decode mX10_readLine.2.1 45 = .ok (.aload_n 0, 1) := by decide +kernel
theorem dX10_readLine_46 : decode mX10_readLine.2.1 46 = .ok (.getfield 144, 3) := by decide +kernel
theorem dX10_readLine_49 : decode mX10_readLine.2.1 49 = .ok (.iconst (-1), 1) := by decide +kernel
theorem dX10_readLine_50 : decode mX10_readLine.2.1 50 = .ok (.if_icmp .eq 16, 3) := by decide +kernel
theorem dX10_readLine_53 : decode mX10_readLine.2.1 53 = .ok (.aload_n 0, 1) := by decide +kernel
theorem dX10_readLine_54 : decode mX10_readLine.2.1 54 = .ok (.bipush 59, 2) := by decide +kernel
theorem dX10_readLine_56 : decode mX10_readLine.2.1 56 = .ok (.invokevirtual 136, 3) := by decide +kernel
theorem dX10_readLine_59 : decode mX10_readLine.2.1 59 = .ok (.ifCond .eq 7, 3) := by decide +kernel
theorem dX10_readLine_62 : decode mX10_readLine.2.1 62 = .ok (.iconst 1, 1) := by decide +kernel
theorem dX10_readLine_63 : decode mX10_readLine.2.1 63 = .ok (.goto 4, 3) := by decide +kernel
theorem dX10_readLine_66 : decode mX10_readLine.2.1 66 = .ok (.iconst 0, 1) := by decide +kernel
theorem dX10_readLine_67 : decode mX10_readLine.2.1 67 = .ok (.ireturn, 1) := by decide +kernel
theorem dX10_readLine_68 : decode mX10_readLine.2.1 68 = .ok (.aload_n 0, 1) := by decide +kernel
theorem dX10_readLine_69 : decode mX10_readLine.2.1 69 = .ok (.getfield 106, 3) := by decide +kernel
theorem dX10_readLine_72 : decode mX10_readLine.2.1 72 = .ok (.bipush 71, 2) := by decide +kernel
theorem dX10_readLine_74 : decode mX10_readLine.2.1 74 = .ok (.if_icmp .ne 50, 3) := by decide +kernel
theorem dX10_readLine_77 : decode mX10_readLine.2.1 77 = .ok (.aload_n 0, 1) := by decide +kernel
theorem dX10_readLine_78 : decode mX10_readLine.2.1 78 = .ok (.iconst 4, 1) := by decide +kernel
theorem dX10_readLine_79 : decode mX10_readLine.2.1 79 = .ok (.putfield 127, 3) := by decide +kernel
theorem dX10_readLine_82 : decode mX10_readLine.2.1 82 = .ok (.aload_n 0, 1) := by decide +kernel
theorem dX10_readLine_83 : decode mX10_readLine.2.1 83 = .ok (.bipush 61, 2) := by decide +kernel
theorem dX10_readLine_85 : decode mX10_readLine.2.1 85 = .ok (.invokevirtual 136, 3) := by decide +kernel
theorem dX10_readLine_88 : decode mX10_readLine.2.1 88 = .ok (.ifCond .ne 5, 3) := by decide +kernel
theorem dX10_readLine_91 : decode mX10_readLine.2.1 91 = .ok (.iconst 0, 1) := by decide +kernel
theorem dX10_readLine_92 : decode mX10_readLine.2.1 92 = .ok (.ireturn, 1) := by decide +kernel
theorem dX10_readLine_93 : decode mX10_readLine.2.1 93 = .ok (.aload_n 0, 1) := by decide +kernel
theorem dX10_readLine_94 : decode mX10_readLine.2.1 94 = .ok (.aload_n 0, 1) := by decide +kernel
theorem dX10_readLine_95 : decode mX10_readLine.2.1 95 = .ok (.invokevirtual 140, 3) := by decide +kernel
theorem dX10_readLine_98 : decode mX10_readLine.2.1 98 = .ok (.putfield 144, 3) := by decide +kernel
theorem dX10_readLine_101 : decode mX10_readLine.2.1 101 = .ok (.aload_n 0, 1) := by decide +kernel
theorem dX10_readLine_102 : decode mX10_readLine.2.1 102 = .ok (.getfield 144, 3) := by decide +kernel
theorem dX10_readLine_105 : decode mX10_readLine.2.1 105 = .ok (.iconst (-1), 1) := by decide +kernel
theorem dX10_readLine_106 : decode mX10_readLine.2.1 106 = .ok (.if_icmp .eq 16, 3) := by decide +kernel
theorem dX10_readLine_109 : decode mX10_readLine.2.1 109 = .ok (.aload_n 0, 1) := by decide +kernel
theorem dX10_readLine_110 : decode mX10_readLine.2.1 110 = .ok (.bipush 59, 2) := by decide +kernel
theorem dX10_readLine_112 : decode mX10_readLine.2.1 112 = .ok (.invokevirtual 136, 3) := by decide +kernel
theorem dX10_readLine_115 : decode mX10_readLine.2.1 115 = .ok (.ifCond .eq 7, 3) := by decide +kernel
theorem dX10_readLine_118 : decode mX10_readLine.2.1 118 = .ok (.iconst 1, 1) := by decide +kernel
theorem dX10_readLine_119 : decode mX10_readLine.2.1 119 = .ok (.goto 4, 3) := by decide +kernel
theorem dX10_readLine_122 : decode mX10_readLine.2.1 122 = .ok (.iconst 0, 1) := by decide +kernel
theorem dX10_readLine_123 : decode mX10_readLine.2.1 123 = .ok (.ireturn, 1) := by decide +kernel
theorem dX10_readLine_124 : decode mX10_readLine.2.1 124 = .ok (.aload_n 0, 1) := by decide +kernel
theorem dX10_readLine_125 : decode mX10_readLine.2.1 125 = .ok (.getfield 144, 3) := by decide +kernel
theorem dX10_readLine_128 : decode mX10_readLine.2.1 128 = .ok (.iconst (-1), 1) := by decide +kernel
theorem dX10_readLine_129 : decode mX10_readLine.2.1 129 = .ok (.if_icmp .ne 5, 3) := by decide +kernel
theorem dX10_readLine_132 : decode mX10_readLine.2.1 132 = .ok (.iconst 0, 1) := by decide +kernel
theorem dX10_readLine_133 : decode mX10_readLine.2.1 133 = .ok (.ireturn, 1) := by decide +kernel
theorem dX10_readLine_134 : decode mX10_readLine.2.1 134 = .ok (.aload_n 0, 1) := by decide +kernel
theorem dX10_readLine_135 : decode mX10_readLine.2.1 135 = .ok (.invokevirtual 117, 3) := by decide +kernel
theorem dX10_readLine_138 : decode mX10_readLine.2.1 138 = .ok (.aload_n 0, 1) := by decide +kernel
theorem dX10_readLine_139 : decode mX10_readLine.2.1 139 = .ok (.getfield 106, 3) := by decide +kernel
theorem dX10_readLine_142 : decode mX10_readLine.2.1 142 = .ok (.bipush 46, 2) := by decide +kernel
theorem dX10_readLine_144 : decode mX10_readLine.2.1 144 = .ok (.if_icmp .ne 59, 3) := by decide +kernel
theorem dX10_readLine_147 : decode mX10_readLine.2.1 147 = .ok (.aload_n 0, 1) := by decide +kernel
theorem dX10_readLine_148 : decode mX10_readLine.2.1 148 = .ok (.iconst 2, 1) := by decide +kernel
theorem dX10_readLine_149 : decode mX10_readLine.2.1 149 = .ok (.putfield 127, 3) := by decide +kernel
theorem dX10_readLine_152 : decode mX10_readLine.2.1 152 = .ok (.aload_n 0, 1) := by decide +kernel
theorem dX10_readLine_153 : decode mX10_readLine.2.1 153 = .ok (.bipush 102, 2) := by decide +kernel
theorem dX10_readLine_155 : decode mX10_readLine.2.1 155 = .ok (.invokevirtual 136, 3) := by decide +kernel
theorem dX10_readLine_158 : decode mX10_readLine.2.1 158 = .ok (.ifCond .eq 12, 3) := by decide +kernel
theorem dX10_readLine_161 : decode mX10_readLine.2.1 161 = .ok (.aload_n 0, 1) := by decide +kernel
theorem dX10_readLine_162 : decode mX10_readLine.2.1 162 = .ok (.bipush 61, 2) := by decide +kernel
theorem dX10_readLine_164 : decode mX10_readLine.2.1 164 = .ok (.invokevirtual 136, 3) := by decide +kernel
theorem dX10_readLine_167 : decode mX10_readLine.2.1 167 = .ok (.ifCond .ne 5, 3) := by decide +kernel
theorem dX10_readLine_170 : decode mX10_readLine.2.1 170 = .ok (.iconst 0, 1) := by decide +kernel
theorem dX10_readLine_171 : decode mX10_readLine.2.1 171 = .ok (.ireturn, 1) := by decide +kernel
theorem dX10_readLine_172 : decode mX10_readLine.2.1 172 = .ok (.aload_n 0, 1) := by decide +kernel
theorem dX10_readLine_173 : decode mX10_readLine.2.1 173 = .ok (.aload_n 0, 1) := by decide +kernel
theorem dX10_readLine_174 : decode mX10_readLine.2.1 174 = .ok (.invokevirtual 140, 3) := by decide +kernel
theorem dX10_readLine_177 : decode mX10_readLine.2.1 177 = .ok (.putfield 124, 3) := by decide +kernel
theorem dX10_readLine_180 : decode mX10_readLine.2.1 180 = .ok (.aload_n 0, 1) := by decide +kernel
theorem dX10_readLine_181 : decode mX10_readLine.2.1 181 = .ok (.getfield 124, 3) := by decide +kernel
theorem dX10_readLine_184 : decode mX10_readLine.2.1 184 = .ok (.iconst (-1), 1) := by decide +kernel
theorem dX10_readLine_185 : decode mX10_readLine.2.1 185 = .ok (.if_icmp .eq 16, 3) := by decide +kernel
theorem dX10_readLine_188 : decode mX10_readLine.2.1 188 = .ok (.aload_n 0, 1) := by decide +kernel
theorem dX10_readLine_189 : decode mX10_readLine.2.1 189 = .ok (.bipush 59, 2) := by decide +kernel
theorem dX10_readLine_191 : decode mX10_readLine.2.1 191 = .ok (.invokevirtual 136, 3) := by decide +kernel
theorem dX10_readLine_194 : decode mX10_readLine.2.1 194 = .ok (.ifCond .eq 7, 3) := by decide +kernel
theorem dX10_readLine_197 : decode mX10_readLine.2.1 197 = .ok (.iconst 1, 1) := by decide +kernel
theorem dX10_readLine_198 : decode mX10_readLine.2.1 198 = .ok (.goto 4, 3) := by decide +kernel
theorem dX10_readLine_201 : decode mX10_readLine.2.1 201 = .ok (.iconst 0, 1) := by decide +kernel
theorem dX10_readLine_202 : decode mX10_readLine.2.1 202 = .ok (.ireturn, 1) := by decide +kernel
theorem dX10_readLine_203 : decode mX10_readLine.2.1 203 = .ok (.aload_n 0, 1) := by decide +kernel
theorem dX10_readLine_204 : decode mX10_readLine.2.1 204 = .ok (.getfield 106, 3) := by decide +kernel
theorem dX10_readLine_207 : decode mX10_readLine.2.1 207 = .ok (.bipush 61, 2) := by decide +kernel
theorem dX10_readLine_209 : decode mX10_readLine.2.1 209 = .ok (.if_icmp .ne 24, 3) := by decide +kernel
theorem dX10_readLine_212 : decode mX10_readLine.2.1 212 = .ok (.aload_n 0, 1) := by decide +kernel
theorem dX10_readLine_213 : decode mX10_readLine.2.1 213 = .ok (.iload_n 1, 1) := by decide +kernel
theorem dX10_readLine_214 : decode mX10_readLine.2.1 214 = .ok (.invokevirtual 147, 3) := by decide +kernel
theorem dX10_readLine_217 : decode mX10_readLine.2.1 217 = .ok (.ifCond .eq 16, 3) := by decide +kernel
theorem dX10_readLine_220 : decode mX10_readLine.2.1 220 = .ok (.aload_n 0, 1) := by decide +kernel
theorem dX10_readLine_221 : decode mX10_readLine.2.1 221 = .ok (.getfield 106, 3) := by decide +kernel
theorem dX10_readLine_224 : decode mX10_readLine.2.1 224 = .ok (.bipush 59, 2) := by decide +kernel
theorem dX10_readLine_226 : decode mX10_readLine.2.1 226 = .ok (.if_icmp .ne 7, 3) := by decide +kernel
theorem dX10_readLine_229 : decode mX10_readLine.2.1 229 = .ok (.iconst 1, 1) := by decide +kernel
theorem dX10_readLine_230 : decode mX10_readLine.2.1 230 = .ok (.goto 4, 3) := by decide +kernel
theorem dX10_readLine_233 : decode mX10_readLine.2.1 233 = .ok (.iconst 0, 1) := by decide +kernel
theorem dX10_readLine_234 : decode mX10_readLine.2.1 234 = .ok (.ireturn, 1) := by decide +kernel
theorem dX10_readMethod_0 : decode mX10_readMethod.2.1 0 = .ok (.aload_n 0, 1) := by decide +kernel
theorem dX10_readMethod_1 : decode mX10_readMethod.2.1 1 = .ok (.getfield 106, 3) := by decide +kernel
theorem dX10_readMethod_4 : decode mX10_readMethod.2.1 4 = .ok (.bipush 123, 2) := by decide +kernel
theorem dX10_readMethod_6 : decode mX10_readMethod.2.1 6 = .ok (.if_icmp .ne 13, 3) := by decide +kernel
theorem dX10_readMethod_9 : decode mX10_readMethod.2.1 9 = .ok (.aload_n 0, 1) := by decide +kernel
theorem dX10_readMethod_10 : decode mX10_readMethod.2.1 10 = .ok (.getfield 13, 3) := by decide +kernel
theorem dX10_readMethod_13 : decode mX10_readMethod.2.1 13 = .ok (.iconst 0, 1) := by decide +kernel
theorem dX10_readMethod_14 : decode mX10_readMethod.2.1 14 = .ok (.iaload, 1) := by decide +kernel
theorem dX10_readMethod_15 : decode mX10_readMethod.2.1 15 = .ok (.iconst 4, 1) := by decide +kernel
theorem dX10_readMethod_16 : decode mX10_readMethod.2.1 16 = .ok (.if_icmp .ne 5, 3) := by decide +kernel
theorem dX10_readMethod_19 : decode mX10_readMethod.2.1 19 = .ok (.iconst 0, 1) := by decide +kernel
theorem dX10_readMethod_20 : decode mX10_readMethod.2.1 20 = .ok (.ireturn, 1) := by decide +kernel
theorem dX10_readMethod_21 : decode mX10_readMethod.2.1 21 = .ok (.iconst 1, 1) := by decide +kernel
theorem dX10_readMethod_22 : decode mX10_readMethod.2.1 22 = .ok (.bipush 33, 2) := by decide +kernel
theorem dX10_readMethod_24 : decode mX10_readMethod.2.1 24 = .ok (.aload_n 0, 1) := by decide +kernel
theorem dX10_readMethod_25 : decode mX10_readMethod.2.1 25 = .ok (.getfield 13, 3) := by decide +kernel
theorem dX10_readMethod_28 : decode mX10_readMethod.2.1 28 = .ok (.iconst 0, 1) := by decide +kernel
theorem dX10_readMethod_29 : decode mX10_readMethod.2.1 29 = .ok (.iaload, 1) := by decide +kernel
theorem dX10_readMethod_30 : decode mX10_readMethod.2.1 30 = .ok (.imul, 1) := by decide +kernel
theorem dX10_readMethod_31 : decode mX10_readMethod.2.1 31 = .ok (.iadd, 1) := by decide +kernel
theorem dX10_readMethod_32 : decode mX10_readMethod.2.1 32 = .ok (.istore_n 1, 1) := by decide +kernel
theorem dX10_readMethod_33 : decode mX10_readMethod.2.1 33 = .ok (.aload_n 0, 1) := by decide +kernel
theorem dX10_readMethod_34 : decode mX10_readMethod.2.1 34 = .ok (.getfield 13, 3) := by decide +kernel
theorem dX10_readMethod_37 : decode mX10_readMethod.2.1 37 = .ok (.iload_n 1, 1) := by decide +kernel
theorem dX10_readMethod_38 : decode mX10_readMethod.2.1 38 = .ok (.iconst 0, 1) := by decide +kernel
theorem dX10_readMethod_39 : decode mX10_readMethod.2.1 39 = .ok (.iastore, 1) := by decide +kernel
theorem dX10_readMethod_40 : decode mX10_readMethod.2.1 40 = .ok (.aload_n 0, 1) := by decide +kernel
theorem dX10_readMethod_41 : decode mX10_readMethod.2.1 41 = .ok (.invokevirtual 117, 3) := by decide +kernel
theorem dX10_readMethod_44 : decode mX10_readMethod.2.1 44 = .ok (.aload_n 0, 1) := by decide +kernel
theorem dX10_readMethod_45 : decode mX10_readMethod.2.1 45 = .ok (.getfield 106, 3) := by decide +kernel
theorem dX10_readMethod_48 : decode mX10_readMethod.2.1 48 = .ok (.bipush 125, 2) := by decide +kernel
theorem dX10_readMethod_50 : decode mX10_readMethod.2.1 50 = .ok (.if_icmp .eq 124, 3) := by decide +kernel
theorem dX10_readMethod_53 : decode mX10_readMethod.2.1 53 = .ok (.aload_n 0, 1) := by decide +kernel
theorem dX10_readMethod_54 : decode mX10_readMethod.2.1 54 = .ok (.getfield 13, 3) := by decide +kernel
theorem dX10_readMethod_57 : decode mX10_readMethod.2.1 57 = .ok (.iload_n 1, 1) := by decide +kernel
theorem dX10_readMethod_58 : decode mX10_readMethod.2.1 58 = .ok (.iaload, 1) := by decide +kernel
theorem dX10_readMethod_59 : decode mX10_readMethod.2.1 59 = .ok (.bipush 8, 2) := by decide +kernel
theorem dX10_readMethod_61 : decode mX10_readMethod.2.1 61 = .ok (.if_icmp .eq 16, 3) := by decide +kernel
theorem dX10_readMethod_64 : decode mX10_readMethod.2.1 64 = .ok (.aload_n 0, 1) := by decide +kernel
theorem dX10_readMethod_65 : decode mX10_readMethod.2.1 65 = .ok (.aload_n 0, 1) := by decide +kernel
theorem dX10_readMethod_66 : decode mX10_readMethod.2.1 66 = .ok (.getfield 13, 3) := by decide +kernel
theorem dX10_readMethod_69 : decode mX10_readMethod.2.1 69 = .ok (.iconst 0, 1) := by decide +kernel
theorem dX10_readMethod_70 : decode mX10_readMethod.2.1 70 = .ok (.iaload, 1) := by decide +kernel
theorem dX10_readMethod_71 : decode mX10_readMethod.2.1 71 = .ok (.invokevirtual 150, 3) := by decide +kernel
theorem dX10_readMethod_74 : decode mX10_readMethod.2.1 74 = .ok (.ifCond .ne 5, 3) := by decide +kernel
theorem dX10_readMethod_77 : decode mX10_readMethod.2.1 77 = .ok (.iconst 0, 1) := by decide +kernel
theorem dX10_readMethod_78 : decode mX10_readMethod.2.1 78 = .ok (.ireturn, 1) := by decide +kernel
theorem dX10_readMethod_79 : decode mX10_readMethod.2.1 79 = .ok (.iload_n 1, 1) := by decide +kernel
theorem dX10_readMethod_80 : decode mX10_readMethod.2.1 80 = .ok (.iconst 1, 1) := by decide +kernel
theorem dX10_readMethod_81 : decode mX10_readMethod.2.1 81 = .ok (.iadd, 1) := by decide +kernel
theorem dX10_readMethod_82 : decode mX10_readMethod.2.1 82 = .ok (.iconst 4, 1) := by decide +kernel
theorem dX10_readMethod_83 : decode mX10_readMethod.2.1 83 = .ok (.aload_n 0, 1) := by decide +kernel
theorem dX10_readMethod_84 : decode mX10_readMethod.2.1 84 = .ok (.getfield 13, 3) := by decide +kernel
theorem dX10_readMethod_87 : decode mX10_readMethod.2.1 87 = .ok (.iload_n 1, 1) := by decide +kernel
theorem dX10_readMethod_88 : decode mX10_readMethod.2.1 88 = .ok (.iaload, 1) := by decide +kernel
theorem dX10_readMethod_89 : decode mX10_readMethod.2.1 89 = .ok (.imul, 1) := by decide +kernel
theorem dX10_readMethod_90 : decode mX10_readMethod.2.1 90 = .ok (.iadd, 1) := by decide +kernel
theorem dX10_readMethod_91 : decode mX10_readMethod.2.1 91 = .ok (.istore_n 2, 1) := by decide +kernel
theorem dX10_readMethod_92 : decode mX10_readMethod.2.1 92 = .ok (.aload_n 0, 1) := by decide +kernel
theorem dX10_readMethod_93 : decode mX10_readMethod.2.1 93 = .ok (.getfield 13, 3) := by decide +kernel
theorem dX10_readMethod_96 : decode mX10_readMethod.2.1 96 = .ok (.iload_n 2, 1) := by decide +kernel
theorem dX10_readMethod_97 : decode mX10_readMethod.2.1 97 = .ok (.aload_n 0, 1) := by decide +kernel
theorem dX10_readMethod_98 : decode mX10_readMethod.2.1 98 = .ok (.getfield 127, 3) := by decide +kernel
theorem dX10_readMethod_101 : decode mX10_readMethod.2.1 101 = .ok (.iastore, 1) := by decide +kernel
theorem dX10_readMethod_102 : decode mX10_readMethod.2.1 102 = .ok (.aload_n 0, 1) := by decide +kernel
theorem dX10_readMethod_103 : decode mX10_readMethod.2.1 103 = .ok (.getfield 13, 3) := by decide +kernel
theorem dX10_readMethod_106 : decode mX10_readMethod.2.1 106 = .ok (.iload_n 2, 1) := by decide +kernel
theorem dX10_readMethod_107 : decode mX10_readMethod.2.1 107 = .ok (.iconst 1, 1) := by decide +kernel
theorem dX10_readMethod_108 : decode mX10_readMethod.2.1 108 = .ok (.iadd, 1) := by decide +kernel
theorem dX10_readMethod_109 : decode mX10_readMethod.2.1 109 = .ok (.aload_n 0, 1) := by decide +kernel
theorem dX10_readMethod_110 : decode mX10_readMethod.2.1 110 = .ok (.getfield 144, 3) := by decide +kernel
theorem dX10_readMethod_113 : decode mX10_readMethod.2.1 113 = .ok (.iastore, 1) := by decide +kernel
theorem dX10_readMethod_114 : decode mX10_readMethod.2.1 114 = .ok (.aload_n 0, 1) := by decide +kernel
theorem dX10_readMethod_115 : decode mX10_readMethod.2.1 115 = .ok (.getfield 13, 3) := by decide +kernel
theorem dX10_readMethod_118 : decode mX10_readMethod.2.1 118 = .ok (.iload_n 2, 1) := by decide +kernel
theorem dX10_readMethod_119 : decode mX10_readMethod.2.1 119 = .ok (.iconst 2, 1) := by decide +kernel
theorem dX10_readMethod_120 : decode mX10_readMethod.2.1 120 = .ok (.iadd, 1) := by decide +kernel
theorem dX10_readMethod_121 : decode mX10_readMethod.2.1 121 = .ok (.aload_n 0, 1) := by decide +kernel
theorem dX10_readMethod_122 : decode mX10_readMethod.2.1 122 = .ok (.getfield 127, 3) := by decide +kernel
theorem dX10_readMethod_125 : decode mX10_readMethod.2.1 125 = .ok (.ifCond .eq 11, 3) := by decide +kernel
theorem dX10_readMethod_128 : decode mX10_readMethod.2.1 128 = .ok (.aload_n 0, 1) := by decide +kernel
theorem dX10_readMethod_129 : decode mX10_readMethod.2.1 129 = .ok (.getfield 127, 3) := by decide +kernel
theorem dX10_readMethod_132 : decode mX10_readMethod.2.1 132 = .ok (.iconst 5, 1) := by decide +kernel
theorem dX10_readMethod_133 : decode mX10_readMethod.2.1 133 = .ok (.if_icmp .ne 7, 3) := by decide +kernel
theorem dX10_readMethod_136 : decode mX10_readMethod.2.1 136 = .ok (.iconst (-1), 1) := by decide +kernel
theorem dX10_readMethod_137 : decode mX10_readMethod.2.1 137 = .ok (.goto 7, 3) := by decide +kernel
theorem dX10_readMethod_140 : decode mX10_readMethod.2.1 140 = .ok (.aload_n 0, 1) := by decide +kernel
theorem dX10_readMethod_141 : decode mX10_readMethod.2.1 141 = .ok (.getfield 124, 3) := by decide +kernel
theorem dX10_readMethod_144 : decode mX10_readMethod.2.1 144 = .ok (.iastore, 1) := by decide +kernel
theorem dX10_readMethod_145 : decode mX10_readMethod.2.1 145 = .ok (.aload_n 0, 1) := by decide +kernel
theorem dX10_readMethod_146 : decode mX10_readMethod.2.1 146 = .ok (.getfield 13, 3) := by decide +kernel
theorem dX10_readMethod_149 : decode mX10_readMethod.2.1 149 = .ok (.iload_n 2, 1) := by decide +kernel
theorem dX10_readMethod_150 : decode mX10_readMethod.2.1 150 = .ok (.iconst 3, 1) := by decide +kernel
theorem dX10_readMethod_151 : decode mX10_readMethod.2.1 151 = .ok (.iadd, 1) := by decide +kernel
theorem dX10_readMethod_152 : decode mX10_readMethod.2.1 152 = .ok (.aload_n 0, 1) := by decide +kernel
theorem dX10_readMethod_153 : decode mX10_readMethod.2.1 153 = .ok (.getfield 130, 3) := by decide +kernel
theorem dX10_readMethod_156 : decode mX10_readMethod.2.1 156 = .ok (.iastore, 1) := by decide +kernel
theorem dX10_readMethod_157 : decode mX10_readMethod.2.1 157 = .ok (.aload_n 0, 1) := by decide +kernel
theorem dX10_readMethod_158 : decode mX10_readMethod.2.1 158 = .ok (.getfield 13, 3) := by decide +kernel
theorem dX10_readMethod_161 : decode mX10_readMethod.2.1 161 = .ok (.iload_n 1, 1) := by decide +kernel
theorem dX10_readMethod_162 : decode mX10_readMethod.2.1 162 = .ok (.dup2, 1) := by decide +kernel
theorem dX10_readMethod_163 : decode mX10_readMethod.2.1 163 = .ok (.iaload, 1) := by decide +kernel
theorem dX10_readMethod_164 : decode mX10_readMethod.2.1 164 = .ok (.iconst 1, 1) := by decide +kernel
theorem dX10_readMethod_165 : decode mX10_readMethod.2.1 165 = .ok (.iadd, 1) := by decide +kernel
theorem dX10_readMethod_166 : decode mX10_readMethod.2.1 166 = .ok (.iastore, 1) := by decide +kernel
theorem dX10_readMethod_167 : decode mX10_readMethod.2.1 167 = .ok (.aload_n 0, 1) := by decide +kernel
theorem dX10_readMethod_168 : decode mX10_readMethod.2.1 168 = .ok (.invokevirtual 117, 3) := by decide +kernel
theorem dX10_readMethod_171 : decode mX10_readMethod.2.1 171 = .ok (.goto (-127), 3) := by decide +kernel
theorem dX10_readMethod_174 : decode mX10_readMethod.2.1 174 = .ok (.aload_n 0, 1) := by decide +kernel
theorem dX10_readMethod_175 : decode mX10_readMethod.2.1 175 = .ok (.getfield 13, 3) := by decide +kernel
theorem dX10_readMethod_178 : decode mX10_readMethod.2.1 178 = .ok (.iconst 0, 1) := by decide +kernel
theorem dX10_readMethod_179 : decode mX10_readMethod.2.1 179 = .ok (.dup2, 1) := by decide +kernel
theorem dX10_readMethod_180 : decode mX10_readMethod.2.1 180 = .ok (.iaload, 1) := by decide +kernel
theorem dX10_readMethod_181 : decode mX10_readMethod.2.1 181 = .ok (.iconst 1, 1) := by decide +kernel
theorem dX10_readMethod_182 : decode mX10_readMethod.2.1 182 = .ok (.iadd, 1) := by decide +kernel
theorem dX10_readMethod_183 : decode mX10_readMethod.2.1 183 = .ok (.iastore, 1) := by decide +kernel
theorem dX10_readMethod_184 : decode mX10_readMethod.2.1 184 = .ok (.iconst 1, 1) := by decide +kernel
theorem dX10_readMethod_185 : decode mX10_readMethod.2.1 185 = .ok (.ireturn, 1) := by decide +kernel
theorem dX10_readText_0 : decode mX10_readText.2.1 0 = .ok (.iconst 0, 1) := by decide +kernel
theorem dX10_readText_1 : decode mX10_readText.2.1 1 = .ok (.istore_n 1, 1) := by decide +kernel
theorem dX10_readText_2 : decode mX10_readText.2.1 2 = .ok (.iload_n 1, 1) := by decide +kernel
theorem dX10_readText_3 : decode mX10_readText.2.1 3 = .ok (.sipush 133, 3) := by decide +kernel
theorem dX10_readText_6 : decode mX10_readText.2.1 6 = .ok (.if_icmp .ge 16, 3) := by decide +kernel
theorem dX10_readText_9 : decode mX10_readText.2.1 9 = .ok (.aload_n 0, 1) := by decide +kernel
theorem dX10_readText_10 : decode mX10_readText.2.1 10 = .ok (.getfield 13, 3) := by decide +kernel
theorem dX10_readText_13 : decode mX10_readText.2.1 13 = .ok (.iload_n 1, 1) := by decide +kernel
theorem dX10_readText_14 : decode mX10_readText.2.1 14 = .ok (.iconst 0, 1) := by decide +kernel
theorem dX10_readText_15 : decode mX10_readText.2.1 15 = .ok (.iastore, 1) := by decide +kernel
theorem dX10_readText_16 : decode mX10_readText.2.1 16 = .ok (.iinc 1 1, 3) := by decide +kernel
theorem dX10_readText_19 : decode mX10_readText.2.1 19 = .ok (.goto (-17), 3) := by decide +kernel
theorem dX10_readText_22 : decode mX10_readText.2.1 22 = .ok (.aload_n 0, 1) := by decide +kernel
theorem dX10_readText_23 : decode mX10_readText.2.1 23 = .ok (.iconst 0, 1) := by decide +kernel
theorem dX10_readText_24 : decode mX10_readText.2.1 24 = .ok (.putfield 133, 3) := by decide +kernel
theorem dX10_readText_27 : decode mX10_readText.2.1 27 = .ok (.aload_n 0, 1) := by decide +kernel
theorem dX10_readText_28 : decode mX10_readText.2.1 28 = .ok (.iconst 0, 1) := by decide +kernel
theorem dX10_readText_29 : decode mX10_readText.2.1 29 = .ok (.putfield 93, 3) := by decide +kernel
theorem dX10_readText_32 : decode mX10_readText.2.1 32 = .ok (.aload_n 0, 1) := by decide +kernel
theorem dX10_readText_33 : decode mX10_readText.2.1 33 = .ok (.invokevirtual 117, 3) := by decide +kernel
theorem dX10_readText_36 : decode mX10_readText.2.1 36 = .ok (.aload_n 0, 1) := by decide +kernel
theorem dX10_readText_37 : decode mX10_readText.2.1 37 = .ok (.getfield 106, 3) := by decide +kernel
theorem dX10_readText_40 : decode mX10_readText.2.1 40 = .ok (.sipush 1000, 3) := by decide +kernel
theorem dX10_readText_43 : decode mX10_readText.2.1 43 = .ok (.if_icmp .eq 22, 3) := by decide +kernel
theorem dX10_readText_46 : decode mX10_readText.2.1 46 = .ok (.aload_n 0, 1) := by decide +kernel
theorem dX10_readText_47 : decode mX10_readText.2.1 47 = .ok (.invokevirtual 153, 3) := by decide +kernel
theorem dX10_readText_50 : decode mX10_readText.2.1 50 = .ok (.ifCond .ne 8, 3) := by decide +kernel
theorem dX10_readText_53 : decode mX10_readText.2.1 53 = .ok (.aload_n 0, 1) := by decide +kernel
theorem dX10_readText_54 : decode mX10_readText.2.1 54 = .ok (.getfield 103, 3) := by decide +kernel
theorem dX10_readText_57 : decode mX10_readText.2.1 57 = .ok (.ireturn, 1) := by decide +kernel
theorem dX10_readText_58 : decode mX10_readText.2.1 58 = .ok (.aload_n 0, 1) := by decide +kernel
theorem dX10_readText_59 : decode mX10_readText.2.1 59 = .ok (.invokevirtual 117, 3) := by decide +kernel
theorem dX10_readText_62 : decode mX10_readText.2.1 62 = .ok (.goto (-26), 3) := by decide +kernel
theorem dX10_readText_65 : decode mX10_readText.2.1 65 = .ok (.iconst 0, 1) := by decide +kernel
theorem dX10_readText_66 : decode mX10_readText.2.1 66 = .ok (.istore_n 1, 1) := by decide +kernel
theorem dX10_readText_67 : decode mX10_readText.2.1 67 = .ok (.iload_n 1, 1) := by decide +kernel
theorem dX10_readText_68 : decode mX10_readText.2.1 68 = .ok (.aload_n 0, 1) := by decide +kernel
theorem dX10_readText_69 : decode mX10_readText.2.1 69 = .ok (.getfield 133, 3) := by decide +kernel
theorem dX10_readText_72 : decode mX10_readText.2.1 72 = .ok (.if_icmp .ge 31, 3) := by decide +kernel
theorem dX10_readText_75 : decode mX10_readText.2.1 75 = .ok (.aload_n 0, 1) := by decide +kernel
theorem dX10_readText_76 : decode mX10_readText.2.1 76 = .ok (.getfield 25, 3) := by decide +kernel
theorem dX10_readText_79 : decode mX10_readText.2.1 79 = .ok (.iload_n 1, 1) := by decide +kernel
theorem dX10_readText_80 : decode mX10_readText.2.1 80 = .ok (.iaload, 1) := by decide +kernel
theorem dX10_readText_81 : decode mX10_readText.2.1 81 = .ok (.aload_n 0, 1) := by decide +kernel
theorem dX10_readText_82 : decode mX10_readText.2.1 82 = .ok (.getfield 13, 3) := by decide +kernel
theorem dX10_readText_85 : decode mX10_readText.2.1 85 = .ok (.iconst 0, 1) := by decide +kernel
theorem dX10_readText_86 : decode mX10_readText.2.1 86 = .ok (.iaload, 1) := by decide +kernel
theorem dX10_readText_87 : decode mX10_readText.2.1 87 = .ok (.if_icmp .lt 10, 3) := by decide +kernel
theorem dX10_readText_90 : decode mX10_readText.2.1 90 = .ok (.aload_n 0, 1) := by decide +kernel
theorem dX10_readText_91 : decode mX10_readText.2.1 91 = .ok (.getfield 28, 3) := by decide +kernel
theorem dX10_readText_94 : decode mX10_readText.2.1 94 = .ok (.iload_n 1, 1) := by decide +kernel
theorem dX10_readText_95 : decode mX10_readText.2.1 95 = .ok (.iaload, 1) := by decide +kernel
theorem dX10_readText_96 : decode mX10_readText.2.1 96 = .ok (.ireturn, 1) := by decide +kernel
theorem dX10_readText_97 : decode mX10_readText.2.1 97 = .ok (.iinc 1 1, 3) := by decide +kernel
theorem dX10_readText_100 : decode mX10_readText.2.1 100 = .ok (.goto (-33), 3) := by decide +kernel
theorem dX10_readText_103 : decode mX10_readText.2.1 103 = .ok (.iconst (-1), 1) := by decide +kernel
theorem dX10_readText_104 : decode mX10_readText.2.1 104 = .ok (.ireturn, 1) := by decide +kernel
theorem dX10_type_0 : decode mX10_type.2.1 0 = .ok (.iload_n 1, 1) := by decide +kernel
theorem dX10_type_1 : decode mX10_type.2.1 1 = .ok (.iconst 0, 1) := by decide +kernel
theorem dX10_type_2 : decode mX10_type.2.1 2 = .ok (.bipush 127, 2) := by decide +kernel
theorem dX10_type_4 : decode mX10_type.2.1 4 = .ok (.invokestatic 99, 3) := by decide +kernel
theorem dX10_type_7 : decode mX10_type.2.1 7 = .ok (.ifCond .ne 10, 3) := by decide +kernel
theorem dX10_type_10 : decode mX10_type.2.1 10 = .ok (.aload_n 0, 1) := by decide +kernel
theorem dX10_type_11 : decode mX10_type.2.1 11 = .ok (.bipush (-2), 2) := by decide +kernel
theorem dX10_type_13 : decode mX10_type.2.1 13 = .ok (.invokevirtual 156, 3) := by decide +kernel
theorem dX10_type_16 : decode mX10_type.2.1 16 = .ok (.ireturn, 1) := by decide +kernel
theorem dX10_type_17 : decode mX10_type.2.1 17 = .ok (.aload_n 0, 1) := by decide +kernel
theorem dX10_type_18 : decode mX10_type.2.1 18 = .ok (.getfield 96, 3) := by decide +kernel
theorem dX10_type_21 : decode mX10_type.2.1 21 = .ok (.sipush 200, 3) := by decide +kernel
theorem dX10_type_24 : decode mX10_type.2.1 24 = .ok (.if_icmp .ne 10, 3) := by decide +kernel
theorem dX10_type_27 : decode mX10_type.2.1 27 = .ok (.aload_n 0, 1) := by decide +kernel
theorem dX10_type_28 : decode mX10_type.2.1 28 = .ok (.bipush (-4), 2) := by decide +kernel
theorem dX10_type_30 : decode mX10_type.2.1 30 = .ok (.invokevirtual 156, 3) := by decide +kernel
theorem dX10_type_33 : decode mX10_type.2.1 33 = .ok (.ireturn, 1) := by decide +kernel
theorem dX10_type_34 : decode mX10_type.2.1 34 = .ok (.aload_n 0, 1) := by decide +kernel
theorem dX10_type_35 : decode mX10_type.2.1 35 = .ok (.getfield 22, 3) := by decide +kernel
theorem dX10_type_38 : decode mX10_type.2.1 38 = .ok (.aload_n 0, 1) := by decide +kernel
theorem dX10_type_39 : decode mX10_type.2.1 39 = .ok (.getfield 96, 3) := by decide +kernel
theorem dX10_type_42 : decode mX10_type.2.1 42 = .ok (.iload_n 1, 1) := by decide +kernel
theorem dX10_type_43 : decode mX10_type.2.1 43 = .ok (.iastore, 1) := by decide +kernel
theorem dX10_type_44 : decode mX10_type.2.1 44 = .ok (.aload_n 0, 1) := by decide +kernel
theorem dX10_type_45 : decode mX10_type.2.1 45 = .ok (.dup, 1) := by decide +kernel
theorem dX10_type_46 : decode mX10_type.2.1 46 = .ok (.getfield 96, 3) := by decide +kernel
theorem dX10_type_49 : decode mX10_type.2.1 49 = .ok (.iconst 1, 1) := by decide +kernel
theorem dX10_type_50 : decode mX10_type.2.1 50 = .ok (.iadd, 1) := by decide +kernel
theorem dX10_type_51 : decode mX10_type.2.1 51 = .ok (.putfield 96, 3) := by decide +kernel
theorem dX10_type_54 : decode mX10_type.2.1 54 = .ok (.aload_n 0, 1) := by decide +kernel
theorem dX10_type_55 : decode mX10_type.2.1 55 = .ok (.getfield 96, 3) := by decide +kernel
theorem dX10_type_58 : decode mX10_type.2.1 58 = .ok (.ireturn, 1) := by decide +kernel
theorem dX10_clear_0 : decode mX10_clear.2.1 0 = .ok (.aload_n 0, 1) := by decide +kernel
theorem dX10_clear_1 : decode mX10_clear.2.1 1 = .ok (.getfield 96, 3) := by decide +kernel
theorem dX10_clear_4 : decode mX10_clear.2.1 4 = .ok (.istore_n 1, 1) := by decide +kernel
theorem dX10_clear_5 : decode mX10_clear.2.1 5 = .ok (.aload_n 0, 1) := by decide +kernel
theorem dX10_clear_6 : decode mX10_clear.2.1 6 = .ok (.iconst 0, 1) := by decide +kernel
theorem dX10_clear_7 : decode mX10_clear.2.1 7 = .ok (.putfield 96, 3) := by decide +kernel
theorem dX10_clear_10 : decode mX10_clear.2.1 10 = .ok (.iload_n 1, 1) := by decide +kernel
theorem dX10_clear_11 : decode mX10_clear.2.1 11 = .ok (.ireturn, 1) := by decide +kernel
theorem dX10_reads_0 : decode mX10_reads.2.1 0 = .ok (.aload_n 0, 1) := by decide +kernel
theorem dX10_reads_1 : decode mX10_reads.2.1 1 = .ok (.invokevirtual 159, 3) := by decide +kernel
theorem dX10_reads_4 : decode mX10_reads.2.1 4 = .ok (.istore_n 1, 1) := by decide +kernel
theorem dX10_reads_5 : decode mX10_reads.2.1 5 = .ok (.iload_n 1, 1) := by decide +kernel
theorem dX10_reads_6 : decode mX10_reads.2.1 6 = .ok (.iconst (-1), 1) := by decide +kernel
theorem dX10_reads_7 : decode mX10_reads.2.1 7 = .ok (.if_icmp .eq 8, 3) := by decide +kernel
theorem dX10_reads_10 : decode mX10_reads.2.1 10 = .ok (.bipush (-10), 2) := by decide +kernel
theorem dX10_reads_12 : decode mX10_reads.2.1 12 = .ok (.iload_n 1, 1) := by decide +kernel
theorem dX10_reads_13 : decode mX10_reads.2.1 13 = .ok (.isub, 1) := by decide +kernel
theorem dX10_reads_14 : decode mX10_reads.2.1 14 = .ok (.ireturn, 1) := by decide +kernel
theorem dX10_reads_15 : decode mX10_reads.2.1 15 = .ok (.aload_n 0, 1) := by decide +kernel
theorem dX10_reads_16 : decode mX10_reads.2.1 16 = .ok (.invokevirtual 162, 3) := by decide +kernel
theorem dX10_reads_19 : decode mX10_reads.2.1 19 = .ok (.aload_n 0, 1) := by decide +kernel
theorem dX10_reads_20 : decode mX10_reads.2.1 20 = .ok (.getfield 13, 3) := by decide +kernel
theorem dX10_reads_23 : decode mX10_reads.2.1 23 = .ok (.iconst 0, 1) := by decide +kernel
theorem dX10_reads_24 : decode mX10_reads.2.1 24 = .ok (.aload_n 0, 1) := by decide +kernel
theorem dX10_reads_25 : decode mX10_reads.2.1 25 = .ok (.getfield 7, 3) := by decide +kernel
theorem dX10_reads_28 : decode mX10_reads.2.1 28 = .ok (.iconst 0, 1) := by decide +kernel
theorem dX10_reads_29 : decode mX10_reads.2.1 29 = .ok (.invokestatic 89, 3) := by decide +kernel
theorem dX10_reads_32 : decode mX10_reads.2.1 32 = .ok (.aload_n 0, 1) := by decide +kernel
theorem dX10_reads_33 : decode mX10_reads.2.1 33 = .ok (.getfield 7, 3) := by decide +kernel
theorem dX10_reads_36 : decode mX10_reads.2.1 36 = .ok (.iconst 0, 1) := by decide +kernel
theorem dX10_reads_37 : decode mX10_reads.2.1 37 = .ok (.iaload, 1) := by decide +kernel
theorem dX10_reads_38 : decode mX10_reads.2.1 38 = .ok (.ireturn, 1) := by decide +kernel
theorem dX10_linesOf_0 : decode mX10_linesOf.2.1 0 = .ok (.aload_n 0, 1) := by decide +kernel
theorem dX10_linesOf_1 : decode mX10_linesOf.2.1 1 = .ok (.getfield 7, 3) := by decide +kernel
theorem dX10_linesOf_4 : decode mX10_linesOf.2.1 4 = .ok (.iconst 1, 1) := by decide +kernel
theorem dX10_linesOf_5 : decode mX10_linesOf.2.1 5 = .ok (.bipush 33, 2) := by decide +kernel
theorem dX10_linesOf_7 : decode mX10_linesOf.2.1 7 = .ok (.iload_n 1, 1) := by decide +kernel
theorem dX10_linesOf_8 : decode mX10_linesOf.2.1 8 = .ok (.imul, 1) := by decide +kernel
theorem dX10_linesOf_9 : decode mX10_linesOf.2.1 9 = .ok (.iadd, 1) := by decide +kernel
theorem dX10_linesOf_10 : decode mX10_linesOf.2.1 10 = .ok (.iaload, 1) := by decide +kernel
theorem dX10_linesOf_11 : decode mX10_linesOf.2.1 11 = .ok (.ireturn, 1) := by decide +kernel
theorem dX10_lineAt_0 : decode mX10_lineAt.2.1 0 = .ok (.aload_n 0, 1) := by decide +kernel
theorem dX10_lineAt_1 : decode mX10_lineAt.2.1 1 = .ok (.getfield 7, 3) := by decide +kernel
theorem dX10_lineAt_4 : decode mX10_lineAt.2.1 4 = .ok (.iconst 2, 1) := by decide +kernel
theorem dX10_lineAt_5 : decode mX10_lineAt.2.1 5 = .ok (.bipush 33, 2) := by decide +kernel
theorem dX10_lineAt_7 : decode mX10_lineAt.2.1 7 = .ok (.iload_n 1, 1) := by decide +kernel
theorem dX10_lineAt_8 : decode mX10_lineAt.2.1 8 = .ok (.imul, 1) := by decide +kernel
theorem dX10_lineAt_9 : decode mX10_lineAt.2.1 9 = .ok (.iadd, 1) := by decide +kernel
theorem dX10_lineAt_10 : decode mX10_lineAt.2.1 10 = .ok (.iconst 4, 1) := by decide +kernel
theorem dX10_lineAt_11 : decode mX10_lineAt.2.1 11 = .ok (.iload_n 2, 1) := by decide +kernel
theorem dX10_lineAt_12 : decode mX10_lineAt.2.1 12 = .ok (.imul, 1) := by decide +kernel
theorem dX10_lineAt_13 : decode mX10_lineAt.2.1 13 = .ok (.iadd, 1) := by decide +kernel
theorem dX10_lineAt_14 : decode mX10_lineAt.2.1 14 = .ok (.iload_n 3, 1) := by decide +kernel
theorem dX10_lineAt_15 : decode mX10_lineAt.2.1 15 = .ok (.iadd, 1) := by decide +kernel
theorem dX10_lineAt_16 : decode mX10_lineAt.2.1 16 = .ok (.iaload, 1) := by decide +kernel
theorem dX10_lineAt_17 : decode mX10_lineAt.2.1 17 = .ok (.ireturn, 1) := by decide +kernel
theorem dX10_isMethod_0 : decode mX10_isMethod.2.1 0 = .ok (.iload_n 1, 1) := by decide +kernel
theorem dX10_isMethod_1 : decode mX10_isMethod.2.1 1 = .ok (.iconst 0, 1) := by decide +kernel
theorem dX10_isMethod_2 : decode mX10_isMethod.2.1 2 = .ok (.aload_n 0, 1) := by decide +kernel
theorem dX10_isMethod_3 : decode mX10_isMethod.2.1 3 = .ok (.getfield 7, 3) := by decide +kernel
theorem dX10_isMethod_6 : decode mX10_isMethod.2.1 6 = .ok (.iconst 0, 1) := by decide +kernel
theorem dX10_isMethod_7 : decode mX10_isMethod.2.1 7 = .ok (.iaload, 1) := by decide +kernel
theorem dX10_isMethod_8 : decode mX10_isMethod.2.1 8 = .ok (.iconst 1, 1) := by decide +kernel
theorem dX10_isMethod_9 : decode mX10_isMethod.2.1 9 = .ok (.isub, 1) := by decide +kernel
theorem dX10_isMethod_10 : decode mX10_isMethod.2.1 10 = .ok (.invokestatic 99, 3) := by decide +kernel
theorem dX10_isMethod_13 : decode mX10_isMethod.2.1 13 = .ok (.ireturn, 1) := by decide +kernel
theorem dX10_isLine_0 : decode mX10_isLine.2.1 0 = .ok (.aload_n 0, 1) := by decide +kernel
theorem dX10_isLine_1 : decode mX10_isLine.2.1 1 = .ok (.iload_n 1, 1) := by decide +kernel
theorem dX10_isLine_2 : decode mX10_isLine.2.1 2 = .ok (.invokevirtual 165, 3) := by decide +kernel
theorem dX10_isLine_5 : decode mX10_isLine.2.1 5 = .ok (.ifCond .eq 22, 3) := by decide +kernel
theorem dX10_isLine_8 : decode mX10_isLine.2.1 8 = .ok (.iload_n 2, 1) := by decide +kernel
theorem dX10_isLine_9 : decode mX10_isLine.2.1 9 = .ok (.iconst 0, 1) := by decide +kernel
theorem dX10_isLine_10 : decode mX10_isLine.2.1 10 = .ok (.aload_n 0, 1) := by decide +kernel
theorem dX10_isLine_11 : decode mX10_isLine.2.1 11 = .ok (.iload_n 1, 1) := by decide +kernel
theorem dX10_isLine_12 : decode mX10_isLine.2.1 12 = .ok (.invokevirtual 168, 3) := by decide +kernel
theorem dX10_isLine_15 : decode mX10_isLine.2.1 15 = .ok (.iconst 1, 1) := by decide +kernel
theorem dX10_isLine_16 : decode mX10_isLine.2.1 16 = .ok (.isub, 1) := by decide +kernel
theorem dX10_isLine_17 : decode mX10_isLine.2.1 17 = .ok (.invokestatic 99, 3) := by decide +kernel
theorem dX10_isLine_20 : decode mX10_isLine.2.1 20 = .ok (.ifCond .eq 7, 3) := by decide +kernel
theorem dX10_isLine_23 : decode mX10_isLine.2.1 23 = .ok (.iconst 1, 1) := by decide +kernel
theorem dX10_isLine_24 : decode mX10_isLine.2.1 24 = .ok (.goto 4, 3) := by decide +kernel
theorem dX10_isLine_27 : decode mX10_isLine.2.1 27 = .ok (.iconst 0, 1) := by decide +kernel
theorem dX10_isLine_28 : decode mX10_isLine.2.1 28 = .ok (.ireturn, 1) := by decide +kernel
theorem dX10_drops_0 : decode mX10_drops.2.1 0 = .ok (.aload_n 0, 1) := by decide +kernel
theorem dX10_drops_1 : decode mX10_drops.2.1 1 = .ok (.iload_n 1, 1) := by decide +kernel
theorem dX10_drops_2 : decode mX10_drops.2.1 2 = .ok (.iload_n 2, 1) := by decide +kernel
theorem dX10_drops_3 : decode mX10_drops.2.1 3 = .ok (.invokevirtual 171, 3) := by decide +kernel
theorem dX10_drops_6 : decode mX10_drops.2.1 6 = .ok (.ifCond .ne 10, 3) := by decide +kernel
theorem dX10_drops_9 : decode mX10_drops.2.1 9 = .ok (.aload_n 0, 1) := by decide +kernel
theorem dX10_drops_10 : decode mX10_drops.2.1 10 = .ok (.bipush (-2), 2) := by decide +kernel
theorem dX10_drops_12 : decode mX10_drops.2.1 12 = .ok (.invokevirtual 156, 3) := by decide +kernel
theorem dX10_drops_15 : decode mX10_drops.2.1 15 = .ok (.ireturn, 1) := by decide +kernel
theorem dX10_drops_16 : decode mX10_drops.2.1 16 = .ok (.aload_n 0, 1) := by decide +kernel
theorem dX10_drops_17 : decode mX10_drops.2.1 17 = .ok (.invokevirtual 162, 3) := by decide +kernel
theorem dX10_drops_20 : decode mX10_drops.2.1 20 = .ok (.iconst 2, 1) := by decide +kernel
theorem dX10_drops_21 : decode mX10_drops.2.1 21 = .ok (.bipush 33, 2) := by decide +kernel
theorem dX10_drops_23 : decode mX10_drops.2.1 23 = .ok (.iload_n 1, 1) := by decide +kernel
theorem dX10_drops_24 : decode mX10_drops.2.1 24 = .ok (.imul, 1) := by decide +kernel
theorem dX10_drops_25 : decode mX10_drops.2.1 25 = .ok (.iadd, 1) := by decide +kernel
theorem dX10_drops_26 : decode mX10_drops.2.1 26 = .ok (.istore_n 3, 1) := by decide +kernel
theorem dX10_drops_27 : decode mX10_drops.2.1 27 = .ok (.iconst 4, 1) := by decide +kernel
theorem dX10_drops_28 : decode mX10_drops.2.1 28 = .ok (.iload_n 2, 1) := by decide +kernel
theorem dX10_drops_29 : decode mX10_drops.2.1 29 = .ok (.imul, 1) := by decide +kernel
theorem dX10_drops_30 : decode mX10_drops.2.1 30 = .ok (.istore 4, 2) := by decide +kernel
theorem dX10_drops_32 : decode mX10_drops.2.1 32 = .ok (.iload 4, 2) := by decide +kernel
theorem dX10_drops_34 : decode mX10_drops.2.1 34 = .ok (.bipush 28, 2) := by decide +kernel
theorem dX10_drops_36 : decode mX10_drops.2.1 36 = .ok (.if_icmp .ge 29, 3) := by decide +kernel
theorem dX10_drops_39 : decode mX10_drops.2.1 39 = .ok (.aload_n 0, 1) := by decide +kernel
theorem dX10_drops_40 : decode mX10_drops.2.1 40 = .ok (.getfield 7, 3) := by decide +kernel
theorem dX10_drops_43 : decode mX10_drops.2.1 43 = .ok (.iload_n 3, 1) := by decide +kernel
theorem dX10_drops_44 : decode mX10_drops.2.1 44 = .ok (.iload 4, 2) := by decide +kernel
theorem dX10_drops_46 : decode mX10_drops.2.1 46 = .ok (.iadd, 1) := by decide +kernel
theorem dX10_drops_47 : decode mX10_drops.2.1 47 = .ok (.aload_n 0, 1) := by decide +kernel
theorem dX10_drops_48 : decode mX10_drops.2.1 48 = .ok (.getfield 7, 3) := by decide +kernel
theorem dX10_drops_51 : decode mX10_drops.2.1 51 = .ok (.iload_n 3, 1) := by decide +kernel
theorem dX10_drops_52 : decode mX10_drops.2.1 52 = .ok (.iload 4, 2) := by decide +kernel
theorem dX10_drops_54 : decode mX10_drops.2.1 54 = .ok (.iadd, 1) := by decide +kernel
theorem dX10_drops_55 : decode mX10_drops.2.1 55 = .ok (.iconst 4, 1) := by decide +kernel
theorem dX10_drops_56 : decode mX10_drops.2.1 56 = .ok (.iadd, 1) := by decide +kernel
theorem dX10_drops_57 : decode mX10_drops.2.1 57 = .ok (.iaload, 1) := by decide +kernel
theorem dX10_drops_58 : decode mX10_drops.2.1 58 = .ok (.iastore, 1) := by decide +kernel
theorem dX10_drops_59 : decode mX10_drops.2.1 59 = .ok (.iinc 4 1, 3) := by decide +kernel
theorem dX10_drops_62 : decode mX10_drops.2.1 62 = .ok (.goto (-30), 3) := by decide +kernel
theorem dX10_drops_65 : decode mX10_drops.2.1 65 = .ok (.aload_n 0, 1) := by decide +kernel
theorem dX10_drops_66 : decode mX10_drops.2.1 66 = .ok (.getfield 7, 3) := by decide +kernel
theorem dX10_drops_69 : decode mX10_drops.2.1 69 = .ok (.iload_n 3, 1) := by decide +kernel
theorem dX10_drops_70 : decode mX10_drops.2.1 70 = .ok (.iconst 1, 1) := by decide +kernel
theorem dX10_drops_71 : decode mX10_drops.2.1 71 = .ok (.isub, 1) := by decide +kernel
theorem dX10_drops_72 : decode mX10_drops.2.1 72 = .ok (.dup2, 1) := by decide +kernel
theorem dX10_drops_73 : decode mX10_drops.2.1 73 = .ok (.iaload, 1) := by decide +kernel
theorem dX10_drops_74 : decode mX10_drops.2.1 74 = .ok (.iconst 1, 1) := by decide +kernel
theorem dX10_drops_75 : decode mX10_drops.2.1 75 = .ok (.isub, 1) := by decide +kernel
theorem dX10_drops_76 : decode mX10_drops.2.1 76 = .ok (.iastore, 1) := by decide +kernel
theorem dX10_drops_77 : decode mX10_drops.2.1 77 = .ok (.aload_n 0, 1) := by decide +kernel
theorem dX10_drops_78 : decode mX10_drops.2.1 78 = .ok (.getfield 7, 3) := by decide +kernel
theorem dX10_drops_81 : decode mX10_drops.2.1 81 = .ok (.iload_n 3, 1) := by decide +kernel
theorem dX10_drops_82 : decode mX10_drops.2.1 82 = .ok (.iconst 1, 1) := by decide +kernel
theorem dX10_drops_83 : decode mX10_drops.2.1 83 = .ok (.isub, 1) := by decide +kernel
theorem dX10_drops_84 : decode mX10_drops.2.1 84 = .ok (.iaload, 1) := by decide +kernel
theorem dX10_drops_85 : decode mX10_drops.2.1 85 = .ok (.ireturn, 1) := by decide +kernel
theorem dX10_swaps_0 : decode mX10_swaps.2.1 0 = .ok (.aload_n 0, 1) := by decide +kernel
theorem dX10_swaps_1 : decode mX10_swaps.2.1 1 = .ok (.iload_n 1, 1) := by decide +kernel
theorem dX10_swaps_2 : decode mX10_swaps.2.1 2 = .ok (.iload_n 2, 1) := by decide +kernel
theorem dX10_swaps_3 : decode mX10_swaps.2.1 3 = .ok (.invokevirtual 171, 3) := by decide +kernel
theorem dX10_swaps_6 : decode mX10_swaps.2.1 6 = .ok (.ifCond .eq 14, 3) := by decide +kernel
theorem dX10_swaps_9 : decode mX10_swaps.2.1 9 = .ok (.iload_n 2, 1) := by decide +kernel
theorem dX10_swaps_10 : decode mX10_swaps.2.1 10 = .ok (.iconst 1, 1) := by decide +kernel
theorem dX10_swaps_11 : decode mX10_swaps.2.1 11 = .ok (.iadd, 1) := by decide +kernel
theorem dX10_swaps_12 : decode mX10_swaps.2.1 12 = .ok (.aload_n 0, 1) := by decide +kernel
theorem dX10_swaps_13 : decode mX10_swaps.2.1 13 = .ok (.iload_n 1, 1) := by decide +kernel
theorem dX10_swaps_14 : decode mX10_swaps.2.1 14 = .ok (.invokevirtual 168, 3) := by decide +kernel
theorem dX10_swaps_17 : decode mX10_swaps.2.1 17 = .ok (.if_icmp .ne 10, 3) := by decide +kernel
theorem dX10_swaps_20 : decode mX10_swaps.2.1 20 = .ok (.aload_n 0, 1) := by decide +kernel
theorem dX10_swaps_21 : decode mX10_swaps.2.1 21 = .ok (.bipush (-2), 2) := by decide +kernel
theorem dX10_swaps_23 : decode mX10_swaps.2.1 23 = .ok (.invokevirtual 156, 3) := by decide +kernel
theorem dX10_swaps_26 : decode mX10_swaps.2.1 26 = .ok (.ireturn, 1) := by decide +kernel
theorem dX10_swaps_27 : decode mX10_swaps.2.1 27 = .ok (.aload_n 0, 1) := by decide +kernel
theorem dX10_swaps_28 : decode mX10_swaps.2.1 28 = .ok (.invokevirtual 162, 3) := by decide +kernel
theorem dX10_swaps_31 : decode mX10_swaps.2.1 31 = .ok (.iconst 2, 1) := by decide +kernel
theorem dX10_swaps_32 : decode mX10_swaps.2.1 32 = .ok (.bipush 33, 2) := by decide +kernel
theorem dX10_swaps_34 : decode mX10_swaps.2.1 34 = .ok (.iload_n 1, 1) := by decide +kernel
theorem dX10_swaps_35 : decode mX10_swaps.2.1 35 = .ok (.imul, 1) := by decide +kernel
theorem dX10_swaps_36 : decode mX10_swaps.2.1 36 = .ok (.iadd, 1) := by decide +kernel
theorem dX10_swaps_37 : decode mX10_swaps.2.1 37 = .ok (.iconst 4, 1) := by decide +kernel
theorem dX10_swaps_38 : decode mX10_swaps.2.1 38 = .ok (.iload_n 2, 1) := by decide +kernel
theorem dX10_swaps_39 : decode mX10_swaps.2.1 39 = .ok (.imul, 1) := by decide +kernel
theorem dX10_swaps_40 : decode mX10_swaps.2.1 40 = .ok (.iadd, 1) := by decide +kernel
theorem dX10_swaps_41 : decode mX10_swaps.2.1 41 = .ok (.istore_n 3, 1) := by decide +kernel
theorem dX10_swaps_42 : decode mX10_swaps.2.1 42 = .ok (.iconst 0, 1) := by decide +kernel
theorem dX10_swaps_43 : decode mX10_swaps.2.1 43 = .ok (.istore 4, 2) := by decide +kernel
theorem dX10_swaps_45 : decode mX10_swaps.2.1 45 = .ok (.iload 4, 2) := by decide +kernel
theorem dX10_swaps_47 : decode mX10_swaps.2.1 47 = .ok (.iconst 4, 1) := by decide +kernel
theorem dX10_swaps_48 : decode mX10_swaps.2.1 48 = .ok (.if_icmp .ge 53, 3) := by decide +kernel
theorem dX10_swaps_51 : decode mX10_swaps.2.1 51 = .ok (.aload_n 0, 1) := by decide +kernel
theorem dX10_swaps_52 : decode mX10_swaps.2.1 52 = .ok (.getfield 7, 3) := by decide +kernel
theorem dX10_swaps_55 : decode mX10_swaps.2.1 55 = .ok (.iload_n 3, 1) := by decide +kernel
theorem dX10_swaps_56 : decode mX10_swaps.2.1 56 = .ok (.iload 4, 2) := by decide +kernel
theorem dX10_swaps_58 : decode mX10_swaps.2.1 58 = .ok (.iadd, 1) := by decide +kernel
theorem dX10_swaps_59 : decode mX10_swaps.2.1 59 = .ok (.iaload, 1) := by decide +kernel
theorem dX10_swaps_60 : decode mX10_swaps.2.1 60 = .ok (.istore 5, 2) := by decide +kernel
theorem dX10_swaps_62 : decode mX10_swaps.2.1 62 = .ok (.aload_n 0, 1) := by decide +kernel
theorem dX10_swaps_63 : decode mX10_swaps.2.1 63 = .ok (.getfield 7, 3) := by decide +kernel
theorem dX10_swaps_66 : decode mX10_swaps.2.1 66 = .ok (.iload_n 3, 1) := by decide +kernel
theorem dX10_swaps_67 : decode mX10_swaps.2.1 67 = .ok (.iload 4, 2) := by decide +kernel
theorem dX10_swaps_69 : decode mX10_swaps.2.1 69 = .ok (.iadd, 1) := by decide +kernel
theorem dX10_swaps_70 : decode mX10_swaps.2.1 70 = .ok (.aload_n 0, 1) := by decide +kernel
theorem dX10_swaps_71 : decode mX10_swaps.2.1 71 = .ok (.getfield 7, 3) := by decide +kernel
theorem dX10_swaps_74 : decode mX10_swaps.2.1 74 = .ok (.iload_n 3, 1) := by decide +kernel
theorem dX10_swaps_75 : decode mX10_swaps.2.1 75 = .ok (.iload 4, 2) := by decide +kernel
theorem dX10_swaps_77 : decode mX10_swaps.2.1 77 = .ok (.iadd, 1) := by decide +kernel
theorem dX10_swaps_78 : decode mX10_swaps.2.1 78 = .ok (.iconst 4, 1) := by decide +kernel
theorem dX10_swaps_79 : decode mX10_swaps.2.1 79 = .ok (.iadd, 1) := by decide +kernel
theorem dX10_swaps_80 : decode mX10_swaps.2.1 80 = .ok (.iaload, 1) := by decide +kernel
theorem dX10_swaps_81 : decode mX10_swaps.2.1 81 = .ok (.iastore, 1) := by decide +kernel
theorem dX10_swaps_82 : decode mX10_swaps.2.1 82 = .ok (.aload_n 0, 1) := by decide +kernel
theorem dX10_swaps_83 : decode mX10_swaps.2.1 83 = .ok (.getfield 7, 3) := by decide +kernel
theorem dX10_swaps_86 : decode mX10_swaps.2.1 86 = .ok (.iload_n 3, 1) := by decide +kernel
theorem dX10_swaps_87 : decode mX10_swaps.2.1 87 = .ok (.iload 4, 2) := by decide +kernel
theorem dX10_swaps_89 : decode mX10_swaps.2.1 89 = .ok (.iadd, 1) := by decide +kernel
theorem dX10_swaps_90 : decode mX10_swaps.2.1 90 = .ok (.iconst 4, 1) := by decide +kernel
theorem dX10_swaps_91 : decode mX10_swaps.2.1 91 = .ok (.iadd, 1) := by decide +kernel
theorem dX10_swaps_92 : decode mX10_swaps.2.1 92 = .ok (.iload 5, 2) := by decide +kernel
theorem dX10_swaps_94 : decode mX10_swaps.2.1 94 = .ok (.iastore, 1) := by decide +kernel
theorem dX10_swaps_95 : decode mX10_swaps.2.1 95 = .ok (.iinc 4 1, 3) := by decide +kernel
theorem dX10_swaps_98 : decode mX10_swaps.2.1 98 = .ok (.goto (-53), 3) := by decide +kernel
theorem dX10_swaps_101 : decode mX10_swaps.2.1 101 = .ok (.iconst 1, 1) := by decide +kernel
theorem dX10_swaps_102 : decode mX10_swaps.2.1 102 = .ok (.ireturn, 1) := by decide +kernel
theorem dX10_findSites_0 : decode mX10_findSites.2.1 0 = .ok (.aload_n 0, 1) := by decide +kernel
theorem dX10_findSites_1 : decode mX10_findSites.2.1 1 = .ok (.iconst 0, 1) := by decide +kernel
theorem dX10_findSites_2 : decode mX10_findSites.2.1 2 = .ok (.putfield 175, 3) := by decide +kernel
theorem dX10_findSites_5 : decode mX10_findSites.2.1 5 = .ok (.iconst 0, 1) := by decide +kernel
theorem dX10_findSites_6 : decode mX10_findSites.2.1 6 = .ok (.istore_n 1, 1) := by decide +kernel
theorem dX10_findSites_7 : decode mX10_findSites.2.1 7 = .ok (.iload_n 1, 1) := by decide +kernel
theorem dX10_findSites_8 : decode mX10_findSites.2.1 8 = .ok (.aload_n 0, 1) := by decide +kernel
theorem dX10_findSites_9 : decode mX10_findSites.2.1 9 = .ok (.getfield 7, 3) := by decide +kernel
theorem dX10_findSites_12 : decode mX10_findSites.2.1 12 = .ok (.iconst 0, 1) := by decide +kernel
theorem dX10_findSites_13 : decode mX10_findSites.2.1 13 = .ok (.iaload, 1) := by decide +kernel
theorem dX10_findSites_14 : decode mX10_findSites.2.1 14 = .ok (.if_icmp .ge 93, 3) := by decide +kernel
theorem dX10_findSites_17 : decode mX10_findSites.2.1 17 = .ok (.iconst 0, 1) := by decide +kernel
theorem dX10_findSites_18 : decode mX10_findSites.2.1 18 = .ok (.istore_n 2, 1) := by decide +kernel
theorem dX10_findSites_19 : decode mX10_findSites.2.1 19 = .ok (.iload_n 2, 1) := by decide +kernel
theorem dX10_findSites_20 : decode mX10_findSites.2.1 20 = .ok (.aload_n 0, 1) := by decide +kernel
theorem dX10_findSites_21 : decode mX10_findSites.2.1 21 = .ok (.iload_n 1, 1) := by decide +kernel
theorem dX10_findSites_22 : decode mX10_findSites.2.1 22 = .ok (.invokevirtual 168, 3) := by decide +kernel
theorem dX10_findSites_25 : decode mX10_findSites.2.1 25 = .ok (.if_icmp .ge 76, 3) := by decide +kernel
theorem dX10_findSites_28 : decode mX10_findSites.2.1 28 = .ok (.aload_n 0, 1) := by decide +kernel
theorem dX10_findSites_29 : decode mX10_findSites.2.1 29 = .ok (.getfield 37, 3) := by decide +kernel
theorem dX10_findSites_32 : decode mX10_findSites.2.1 32 = .ok (.bipush 8, 2) := by decide +kernel
theorem dX10_findSites_34 : decode mX10_findSites.2.1 34 = .ok (.iload_n 1, 1) := by decide +kernel
theorem dX10_findSites_35 : decode mX10_findSites.2.1 35 = .ok (.imul, 1) := by decide +kernel
theorem dX10_findSites_36 : decode mX10_findSites.2.1 36 = .ok (.iload_n 2, 1) := by decide +kernel
theorem dX10_findSites_37 : decode mX10_findSites.2.1 37 = .ok (.iadd, 1) := by decide +kernel
theorem dX10_findSites_38 : decode mX10_findSites.2.1 38 = .ok (.iconst (-1), 1) := by decide +kernel
theorem dX10_findSites_39 : decode mX10_findSites.2.1 39 = .ok (.iastore, 1) := by decide +kernel
theorem dX10_findSites_40 : decode mX10_findSites.2.1 40 = .ok (.aload_n 0, 1) := by decide +kernel
theorem dX10_findSites_41 : decode mX10_findSites.2.1 41 = .ok (.iload_n 1, 1) := by decide +kernel
theorem dX10_findSites_42 : decode mX10_findSites.2.1 42 = .ok (.iload_n 2, 1) := by decide +kernel
theorem dX10_findSites_43 : decode mX10_findSites.2.1 43 = .ok (.iconst 0, 1) := by decide +kernel
theorem dX10_findSites_44 : decode mX10_findSites.2.1 44 = .ok (.invokevirtual 178, 3) := by decide +kernel
theorem dX10_findSites_47 : decode mX10_findSites.2.1 47 = .ok (.ifCond .ne 48, 3) := by decide +kernel
theorem dX10_findSites_50 : decode mX10_findSites.2.1 50 = .ok (.aload_n 0, 1) := by decide +kernel
theorem dX10_findSites_51 : decode mX10_findSites.2.1 51 = .ok (.getfield 31, 3) := by decide +kernel
theorem dX10_findSites_54 : decode mX10_findSites.2.1 54 = .ok (.aload_n 0, 1) := by decide +kernel
theorem dX10_findSites_55 : decode mX10_findSites.2.1 55 = .ok (.getfield 175, 3) := by decide +kernel
theorem dX10_findSites_58 : decode mX10_findSites.2.1 58 = .ok (.iload_n 1, 1) := by decide +kernel
theorem dX10_findSites_59 : decode mX10_findSites.2.1 59 = .ok (.iastore, 1) := by decide +kernel
theorem dX10_findSites_60 : decode mX10_findSites.2.1 60 = .ok (.aload_n 0, 1) := by decide +kernel
theorem dX10_findSites_61 : decode mX10_findSites.2.1 61 = .ok (.getfield 34, 3) := by decide +kernel
theorem dX10_findSites_64 : decode mX10_findSites.2.1 64 = .ok (.aload_n 0, 1) := by decide +kernel
theorem dX10_findSites_65 : decode mX10_findSites.2.1 65 = .ok (.getfield 175, 3) := by decide +kernel
theorem dX10_findSites_68 : decode mX10_findSites.2.1 68 = .ok (.iload_n 2, 1) := by decide +kernel
theorem dX10_findSites_69 : decode mX10_findSites.2.1 69 = .ok (.iastore, 1) := by decide +kernel
theorem dX10_findSites_70 : decode mX10_findSites.2.1 70 = .ok (.aload_n 0, 1) := by decide +kernel
theorem dX10_findSites_71 : decode mX10_findSites.2.1 71 = .ok (.getfield 37, 3) := by decide +kernel
theorem dX10_findSites_74 : decode mX10_findSites.2.1 74 = .ok (.bipush 8, 2) := by decide +kernel
theorem dX10_findSites_76 : decode mX10_findSites.2.1 76 = .ok (.iload_n 1, 1) := by decide +kernel
theorem dX10_findSites_77 : decode mX10_findSites.2.1 77 = .ok (.imul, 1) := by decide +kernel
theorem dX10_findSites_78 : decode mX10_findSites.2.1 78 = .ok (.iload_n 2, 1) := by decide +kernel
theorem dX10_findSites_79 : decode mX10_findSites.2.1 79 = .ok (.iadd, 1) := by decide +kernel
theorem dX10_findSites_80 : decode mX10_findSites.2.1 80 = .ok (.aload_n 0, 1) := by decide +kernel
theorem dX10_findSites_81 : decode mX10_findSites.2.1 81 = .ok (.getfield 175, 3) := by decide +kernel
theorem dX10_findSites_84 : decode mX10_findSites.2.1 84 = .ok (.iastore, 1) := by decide +kernel
theorem dX10_findSites_85 : decode mX10_findSites.2.1 85 = .ok (.aload_n 0, 1) := by decide +kernel
theorem dX10_findSites_86 : decode mX10_findSites.2.1 86 = .ok (.dup, 1) := by decide +kernel
theorem dX10_findSites_87 : decode mX10_findSites.2.1 87 = .ok (.getfield 175, 3) := by decide +kernel
theorem dX10_findSites_90 : decode mX10_findSites.2.1 90 = .ok (.iconst 1, 1) := by decide +kernel
theorem dX10_findSites_91 : decode mX10_findSites.2.1 91 = .ok (.iadd, 1) := by decide +kernel
theorem dX10_findSites_92 : decode mX10_findSites.2.1 92 = .ok (.putfield 175, 3) := by decide +kernel
theorem dX10_findSites_95 : decode mX10_findSites.2.1 95 = .ok (.iinc 2 1, 3) := by decide +kernel
theorem dX10_findSites_98 : decode mX10_findSites.2.1 98 = .ok (.goto (-79), 3) := by decide +kernel
theorem dX10_findSites_101 : decode mX10_findSites.2.1 101 = .ok (.iinc 1 1, 3) := by decide +kernel
theorem dX10_findSites_104 : decode mX10_findSites.2.1 104 = .ok (.goto (-97), 3) := by decide +kernel
theorem dX10_findSites_107 : decode mX10_findSites.2.1 107 = .ok (.return_, 1) := by decide +kernel
theorem dX10_add_0 : decode mX10_add.2.1 0 = .ok (.aload_n 0, 1) := by decide +kernel
theorem dX10_add_1 : decode mX10_add.2.1 1 = .ok (.aload_n 0, 1) := by decide +kernel
theorem dX10_add_2 : decode mX10_add.2.1 2 = .ok (.getfield 182, 3) := by decide +kernel
theorem dX10_add_5 : decode mX10_add.2.1 5 = .ok (.ifCond .ne 20, 3) := by decide +kernel
theorem dX10_add_8 : decode mX10_add.2.1 8 = .ok (.aload_n 0, 1) := by decide +kernel
theorem dX10_add_9 : decode mX10_add.2.1 9 = .ok (.getfield 40, 3) := by decide +kernel
theorem dX10_add_12 : decode mX10_add.2.1 12 = .ok (.iload_n 1, 1) := by decide +kernel
theorem dX10_add_13 : decode mX10_add.2.1 13 = .ok (.iaload, 1) := by decide +kernel
theorem dX10_add_14 : decode mX10_add.2.1 14 = .ok (.iload_n 2, 1) := by decide +kernel
theorem dX10_add_15 : decode mX10_add.2.1 15 = .ok (.ior, 1) := by decide +kernel
theorem dX10_add_16 : decode mX10_add.2.1 16 = .ok (.aload_n 0, 1) := by decide +kernel
theorem dX10_add_17 : decode mX10_add.2.1 17 = .ok (.getfield 40, 3) := by decide +kernel
theorem dX10_add_20 : decode mX10_add.2.1 20 = .ok (.iload_n 1, 1) := by decide +kernel
theorem dX10_add_21 : decode mX10_add.2.1 21 = .ok (.iaload, 1) := by decide +kernel
theorem dX10_add_22 : decode mX10_add.2.1 22 = .ok (.if_icmp .eq 7, 3) := by decide +kernel
theorem dX10_add_25 : decode mX10_add.2.1 25 = .ok (.iconst 1, 1) := by decide +kernel
theorem dX10_add_26 : decode mX10_add.2.1 26 = .ok (.goto 4, 3) := by decide +kernel
theorem dX10_add_29 : decode mX10_add.2.1 29 = .ok (.iconst 0, 1) := by decide +kernel
theorem dX10_add_30 : decode mX10_add.2.1 30 = .ok (.putfield 182, 3) := by decide +kernel
theorem dX10_add_33 : decode mX10_add.2.1 33 = .ok (.aload_n 0, 1) := by decide +kernel
theorem dX10_add_34 : decode mX10_add.2.1 34 = .ok (.getfield 40, 3) := by decide +kernel
theorem dX10_add_37 : decode mX10_add.2.1 37 = .ok (.iload_n 1, 1) := by decide +kernel
theorem dX10_add_38 : decode mX10_add.2.1 38 = .ok (.dup2, 1) := by decide +kernel
theorem dX10_add_39 : decode mX10_add.2.1 39 = .ok (.iaload, 1) := by decide +kernel
theorem dX10_add_40 : decode mX10_add.2.1 40 = .ok (.iload_n 2, 1) := by decide +kernel
theorem dX10_add_41 : decode mX10_add.2.1 41 = .ok (.ior, 1) := by decide +kernel
theorem dX10_add_42 : decode mX10_add.2.1 42 = .ok (.iastore, 1) := by decide +kernel
theorem dX10_add_43 : decode mX10_add.2.1 43 = .ok (.return_, 1) := by decide +kernel
theorem dX10_has_0 : decode mX10_has.2.1 0 = .ok (.iload_n 0, 1) := by decide +kernel
theorem dX10_has_1 : decode mX10_has.2.1 1 = .ok (.iload_n 1, 1) := by decide +kernel
theorem dX10_has_2 : decode mX10_has.2.1 2 = .ok (.ishr, 1) := by decide +kernel
theorem dX10_has_3 : decode mX10_has.2.1 3 = .ok (.iconst 1, 1) := by decide +kernel
theorem dX10_has_4 : decode mX10_has.2.1 4 = .ok (.iand, 1) := by decide +kernel
theorem dX10_has_5 : decode mX10_has.2.1 5 = .ok (.iconst 1, 1) := by decide +kernel
theorem dX10_has_6 : decode mX10_has.2.1 6 = .ok (.if_icmp .ne 7, 3) := by decide +kernel
theorem dX10_has_9 : decode mX10_has.2.1 9 = .ok (.iconst 1, 1) := by decide +kernel
theorem dX10_has_10 : decode mX10_has.2.1 10 = .ok (.goto 4, 3) := by decide +kernel
theorem dX10_has_13 : decode mX10_has.2.1 13 = .ok (.iconst 0, 1) := by decide +kernel
theorem dX10_has_14 : decode mX10_has.2.1 14 = .ok (.ireturn, 1) := by decide +kernel
theorem dX10_fields_0 : decode mX10_fields.2.1 0 = .ok (.iconst 0, 1) := by decide +kernel
theorem dX10_fields_1 : decode mX10_fields.2.1 1 = .ok (.istore_n 2, 1) := by decide +kernel
theorem dX10_fields_2 : decode mX10_fields.2.1 2 = .ok (.iconst 0, 1) := by decide +kernel
theorem dX10_fields_3 : decode mX10_fields.2.1 3 = .ok (.istore_n 3, 1) := by decide +kernel
theorem dX10_fields_4 : decode mX10_fields.2.1 4 = .ok (.iload_n 3, 1) := by decide +kernel
theorem dX10_fields_5 : decode mX10_fields.2.1 5 = .ok (.aload_n 0, 1) := by decide +kernel
theorem dX10_fields_6 : decode mX10_fields.2.1 6 = .ok (.getfield 175, 3) := by decide +kernel
theorem dX10_fields_9 : decode mX10_fields.2.1 9 = .ok (.if_icmp .ge 33, 3) := by decide +kernel
theorem dX10_fields_12 : decode mX10_fields.2.1 12 = .ok (.iload_n 2, 1) := by decide +kernel
theorem dX10_fields_13 : decode mX10_fields.2.1 13 = .ok (.iload_n 1, 1) := by decide +kernel
theorem dX10_fields_14 : decode mX10_fields.2.1 14 = .ok (.iload_n 3, 1) := by decide +kernel
theorem dX10_fields_15 : decode mX10_fields.2.1 15 = .ok (.invokestatic 186, 3) := by decide +kernel
theorem dX10_fields_18 : decode mX10_fields.2.1 18 = .ok (.ifCond .eq 15, 3) := by decide +kernel
theorem dX10_fields_21 : decode mX10_fields.2.1 21 = .ok (.aload_n 0, 1) := by decide +kernel
theorem dX10_fields_22 : decode mX10_fields.2.1 22 = .ok (.getfield 40, 3) := by decide +kernel
theorem dX10_fields_25 : decode mX10_fields.2.1 25 = .ok (.bipush 17, 2) := by decide +kernel
theorem dX10_fields_27 : decode mX10_fields.2.1 27 = .ok (.iload_n 3, 1) := by decide +kernel
theorem dX10_fields_28 : decode mX10_fields.2.1 28 = .ok (.iadd, 1) := by decide +kernel
theorem dX10_fields_29 : decode mX10_fields.2.1 29 = .ok (.iaload, 1) := by decide +kernel
theorem dX10_fields_30 : decode mX10_fields.2.1 30 = .ok (.goto 4, 3) := by decide +kernel
theorem dX10_fields_33 : decode mX10_fields.2.1 33 = .ok (.iconst 0, 1) := by decide +kernel
theorem dX10_fields_34 : decode mX10_fields.2.1 34 = .ok (.ior, 1) := by decide +kernel
theorem dX10_fields_35 : decode mX10_fields.2.1 35 = .ok (.istore_n 2, 1) := by decide +kernel
theorem dX10_fields_36 : decode mX10_fields.2.1 36 = .ok (.iinc 3 1, 3) := by decide +kernel
theorem dX10_fields_39 : decode mX10_fields.2.1 39 = .ok (.goto (-35), 3) := by decide +kernel
theorem dX10_fields_42 : decode mX10_fields.2.1 42 = .ok (.iload_n 2, 1) := by decide +kernel
theorem dX10_fields_43 : decode mX10_fields.2.1 43 = .ok (.ireturn, 1) := by decide +kernel
theorem dX10_goThrough_0 : decode mX10_goThrough.2.1 0 = .ok (.iconst 4, 1) := by decide +kernel
theorem dX10_goThrough_1 : decode mX10_goThrough.2.1 1 = .ok (.iload_n 1, 1) := by decide +kernel
theorem dX10_goThrough_2 : decode mX10_goThrough.2.1 2 = .ok (.imul, 1) := by decide +kernel
theorem dX10_goThrough_3 : decode mX10_goThrough.2.1 3 = .ok (.aload_n 0, 1) := by decide +kernel
theorem dX10_goThrough_4 : decode mX10_goThrough.2.1 4 = .ok (.iload_n 1, 1) := by decide +kernel
theorem dX10_goThrough_5 : decode mX10_goThrough.2.1 5 = .ok (.iload_n 2, 1) := by decide +kernel
theorem dX10_goThrough_6 : decode mX10_goThrough.2.1 6 = .ok (.iconst 1, 1) := by decide +kernel
theorem dX10_goThrough_7 : decode mX10_goThrough.2.1 7 = .ok (.invokevirtual 178, 3) := by decide +kernel
theorem dX10_goThrough_10 : decode mX10_goThrough.2.1 10 = .ok (.iadd, 1) := by decide +kernel
theorem dX10_goThrough_11 : decode mX10_goThrough.2.1 11 = .ok (.istore_n 3, 1) := by decide +kernel
theorem dX10_goThrough_12 : decode mX10_goThrough.2.1 12 = .ok (.iconst 4, 1) := by decide +kernel
theorem dX10_goThrough_13 : decode mX10_goThrough.2.1 13 = .ok (.iload_n 1, 1) := by decide +kernel
theorem dX10_goThrough_14 : decode mX10_goThrough.2.1 14 = .ok (.imul, 1) := by decide +kernel
theorem dX10_goThrough_15 : decode mX10_goThrough.2.1 15 = .ok (.aload_n 0, 1) := by decide +kernel
theorem dX10_goThrough_16 : decode mX10_goThrough.2.1 16 = .ok (.iload_n 1, 1) := by decide +kernel
theorem dX10_goThrough_17 : decode mX10_goThrough.2.1 17 = .ok (.iload_n 2, 1) := by decide +kernel
theorem dX10_goThrough_18 : decode mX10_goThrough.2.1 18 = .ok (.iconst 2, 1) := by decide +kernel
theorem dX10_goThrough_19 : decode mX10_goThrough.2.1 19 = .ok (.invokevirtual 178, 3) := by decide +kernel
theorem dX10_goThrough_22 : decode mX10_goThrough.2.1 22 = .ok (.iadd, 1) := by decide +kernel
theorem dX10_goThrough_23 : decode mX10_goThrough.2.1 23 = .ok (.istore 4, 2) := by decide +kernel
theorem dX10_goThrough_25 : decode mX10_goThrough.2.1 25 = .ok (.aload_n 0, 1) := by decide +kernel
theorem dX10_goThrough_26 : decode mX10_goThrough.2.1 26 = .ok (.iload_n 1, 1) := by decide +kernel
theorem dX10_goThrough_27 : decode mX10_goThrough.2.1 27 = .ok (.iload_n 2, 1) := by decide +kernel
theorem dX10_goThrough_28 : decode mX10_goThrough.2.1 28 = .ok (.iconst 3, 1) := by decide +kernel
theorem dX10_goThrough_29 : decode mX10_goThrough.2.1 29 = .ok (.invokevirtual 178, 3) := by decide +kernel
theorem dX10_goThrough_32 : decode mX10_goThrough.2.1 32 = .ok (.istore 5, 2) := by decide +kernel
theorem dX10_goThrough_34 : decode mX10_goThrough.2.1 34 = .ok (.aload_n 0, 1) := by decide +kernel
theorem dX10_goThrough_35 : decode mX10_goThrough.2.1 35 = .ok (.iload_n 1, 1) := by decide +kernel
theorem dX10_goThrough_36 : decode mX10_goThrough.2.1 36 = .ok (.iload_n 2, 1) := by decide +kernel
theorem dX10_goThrough_37 : decode mX10_goThrough.2.1 37 = .ok (.iconst 0, 1) := by decide +kernel
theorem dX10_goThrough_38 : decode mX10_goThrough.2.1 38 = .ok (.invokevirtual 178, 3) := by decide +kernel
theorem dX10_goThrough_41 : decode mX10_goThrough.2.1 41 = .ok (.tableswitch 221 0 7 #[47, 68, 83, 138, 157, 172, 221, 187], 47) := by decide +kernel
theorem dX10_goThrough_88 : decode mX10_goThrough.2.1 88 = .ok (.aload_n 0, 1) := by decide +kernel
theorem dX10_goThrough_89 : decode mX10_goThrough.2.1 89 = .ok (.iload_n 3, 1) := by decide +kernel
theorem dX10_goThrough_90 : decode mX10_goThrough.2.1 90 = .ok (.iconst 1, 1) := by decide +kernel
theorem dX10_goThrough_91 : decode mX10_goThrough.2.1 91 = .ok (.aload_n 0, 1) := by decide +kernel
theorem dX10_goThrough_92 : decode mX10_goThrough.2.1 92 = .ok (.getfield 37, 3) := by decide +kernel
theorem dX10_goThrough_95 : decode mX10_goThrough.2.1 95 = .ok (.bipush 8, 2) := by decide +kernel
theorem dX10_goThrough_97 : decode mX10_goThrough.2.1 97 = .ok (.iload_n 1, 1) := by decide +kernel
theorem dX10_goThrough_98 : decode mX10_goThrough.2.1 98 = .ok (.imul, 1) := by decide +kernel
theorem dX10_goThrough_99 : decode mX10_goThrough.2.1 99 = .ok (.iload_n 2, 1) := by decide +kernel
theorem dX10_goThrough_100 : decode mX10_goThrough.2.1 100 = .ok (.iadd, 1) := by decide +kernel
theorem dX10_goThrough_101 : decode mX10_goThrough.2.1 101 = .ok (.iaload, 1) := by decide +kernel
theorem dX10_goThrough_102 : decode mX10_goThrough.2.1 102 = .ok (.ishl, 1) := by decide +kernel
theorem dX10_goThrough_103 : decode mX10_goThrough.2.1 103 = .ok (.invokevirtual 189, 3) := by decide +kernel
theorem dX10_goThrough_106 : decode mX10_goThrough.2.1 106 = .ok (.goto 156, 3) := by decide +kernel
theorem dX10_goThrough_109 : decode mX10_goThrough.2.1 109 = .ok (.aload_n 0, 1) := by decide +kernel
theorem dX10_goThrough_110 : decode mX10_goThrough.2.1 110 = .ok (.iload_n 3, 1) := by decide +kernel
theorem dX10_goThrough_111 : decode mX10_goThrough.2.1 111 = .ok (.aload_n 0, 1) := by decide +kernel
theorem dX10_goThrough_112 : decode mX10_goThrough.2.1 112 = .ok (.getfield 40, 3) := by decide +kernel
theorem dX10_goThrough_115 : decode mX10_goThrough.2.1 115 = .ok (.iload 4, 2) := by decide +kernel
theorem dX10_goThrough_117 : decode mX10_goThrough.2.1 117 = .ok (.iaload, 1) := by decide +kernel
theorem dX10_goThrough_118 : decode mX10_goThrough.2.1 118 = .ok (.invokevirtual 189, 3) := by decide +kernel
theorem dX10_goThrough_121 : decode mX10_goThrough.2.1 121 = .ok (.goto 141, 3) := by decide +kernel
theorem dX10_goThrough_124 : decode mX10_goThrough.2.1 124 = .ok (.iconst 0, 1) := by decide +kernel
theorem dX10_goThrough_125 : decode mX10_goThrough.2.1 125 = .ok (.istore 6, 2) := by decide +kernel
theorem dX10_goThrough_127 : decode mX10_goThrough.2.1 127 = .ok (.iload 6, 2) := by decide +kernel
theorem dX10_goThrough_129 : decode mX10_goThrough.2.1 129 = .ok (.aload_n 0, 1) := by decide +kernel
theorem dX10_goThrough_130 : decode mX10_goThrough.2.1 130 = .ok (.getfield 175, 3) := by decide +kernel
theorem dX10_goThrough_133 : decode mX10_goThrough.2.1 133 = .ok (.if_icmp .ge 43, 3) := by decide +kernel
theorem dX10_goThrough_136 : decode mX10_goThrough.2.1 136 = .ok (.aload_n 0, 1) := by decide +kernel
theorem dX10_goThrough_137 : decode mX10_goThrough.2.1 137 = .ok (.bipush 17, 2) := by decide +kernel
theorem dX10_goThrough_139 : decode mX10_goThrough.2.1 139 = .ok (.iload 6, 2) := by decide +kernel
theorem dX10_goThrough_141 : decode mX10_goThrough.2.1 141 = .ok (.iadd, 1) := by decide +kernel
theorem dX10_goThrough_142 : decode mX10_goThrough.2.1 142 = .ok (.aload_n 0, 1) := by decide +kernel
theorem dX10_goThrough_143 : decode mX10_goThrough.2.1 143 = .ok (.getfield 40, 3) := by decide +kernel
theorem dX10_goThrough_146 : decode mX10_goThrough.2.1 146 = .ok (.iload_n 3, 1) := by decide +kernel
theorem dX10_goThrough_147 : decode mX10_goThrough.2.1 147 = .ok (.iaload, 1) := by decide +kernel
theorem dX10_goThrough_148 : decode mX10_goThrough.2.1 148 = .ok (.iload 6, 2) := by decide +kernel
theorem dX10_goThrough_150 : decode mX10_goThrough.2.1 150 = .ok (.invokestatic 186, 3) := by decide +kernel
theorem dX10_goThrough_153 : decode mX10_goThrough.2.1 153 = .ok (.ifCond .eq 13, 3) := by decide +kernel
theorem dX10_goThrough_156 : decode mX10_goThrough.2.1 156 = .ok (.aload_n 0, 1) := by decide +kernel
theorem dX10_goThrough_157 : decode mX10_goThrough.2.1 157 = .ok (.getfield 40, 3) := by decide +kernel
theorem dX10_goThrough_160 : decode mX10_goThrough.2.1 160 = .ok (.iload 4, 2) := by decide +kernel
theorem dX10_goThrough_162 : decode mX10_goThrough.2.1 162 = .ok (.iaload, 1) := by decide +kernel
theorem dX10_goThrough_163 : decode mX10_goThrough.2.1 163 = .ok (.goto 4, 3) := by decide +kernel
theorem dX10_goThrough_166 : decode mX10_goThrough.2.1 166 = .ok (.iconst 0, 1) := by decide +kernel
theorem dX10_goThrough_167 : decode mX10_goThrough.2.1 167 = .ok (.invokevirtual 189, 3) := by decide +kernel
theorem dX10_goThrough_170 : decode mX10_goThrough.2.1 170 = .ok (.iinc 6 1, 3) := by decide +kernel
theorem dX10_goThrough_173 : decode mX10_goThrough.2.1 173 = .ok (.goto (-46), 3) := by decide +kernel
theorem dX10_goThrough_176 : decode mX10_goThrough.2.1 176 = .ok (.goto 86, 3) := by decide +kernel
theorem dX10_goThrough_179 : decode mX10_goThrough.2.1 179 = .ok (.aload_n 0, 1) := by decide +kernel
theorem dX10_goThrough_180 : decode mX10_goThrough.2.1 180 = .ok (.iload_n 3, 1) := by decide +kernel
theorem dX10_goThrough_181 : decode mX10_goThrough.2.1 181 = .ok (.aload_n 0, 1) := by decide +kernel
theorem dX10_goThrough_182 : decode mX10_goThrough.2.1 182 = .ok (.aload_n 0, 1) := by decide +kernel
theorem dX10_goThrough_183 : decode mX10_goThrough.2.1 183 = .ok (.getfield 40, 3) := by decide +kernel
theorem dX10_goThrough_186 : decode mX10_goThrough.2.1 186 = .ok (.iload 4, 2) := by decide +kernel
theorem dX10_goThrough_188 : decode mX10_goThrough.2.1 188 = .ok (.iaload, 1) := by decide +kernel
theorem dX10_goThrough_189 : decode mX10_goThrough.2.1 189 = .ok (.invokevirtual 193, 3) := by decide +kernel
theorem dX10_goThrough_192 : decode mX10_goThrough.2.1 192 = .ok (.invokevirtual 189, 3) := by decide +kernel
theorem dX10_goThrough_195 : decode mX10_goThrough.2.1 195 = .ok (.goto 67, 3) := by decide +kernel
theorem dX10_goThrough_198 : decode mX10_goThrough.2.1 198 = .ok (.aload_n 0, 1) := by decide +kernel
theorem dX10_goThrough_199 : decode mX10_goThrough.2.1 199 = .ok (.bipush 16, 2) := by decide +kernel
theorem dX10_goThrough_201 : decode mX10_goThrough.2.1 201 = .ok (.aload_n 0, 1) := by decide +kernel
theorem dX10_goThrough_202 : decode mX10_goThrough.2.1 202 = .ok (.getfield 40, 3) := by decide +kernel
theorem dX10_goThrough_205 : decode mX10_goThrough.2.1 205 = .ok (.iload_n 3, 1) := by decide +kernel
theorem dX10_goThrough_206 : decode mX10_goThrough.2.1 206 = .ok (.iaload, 1) := by decide +kernel
theorem dX10_goThrough_207 : decode mX10_goThrough.2.1 207 = .ok (.invokevirtual 189, 3) := by decide +kernel
theorem dX10_goThrough_210 : decode mX10_goThrough.2.1 210 = .ok (.goto 52, 3) := by decide +kernel
theorem dX10_goThrough_213 : decode mX10_goThrough.2.1 213 = .ok (.aload_n 0, 1) := by decide +kernel
theorem dX10_goThrough_214 : decode mX10_goThrough.2.1 214 = .ok (.iload_n 3, 1) := by decide +kernel
theorem dX10_goThrough_215 : decode mX10_goThrough.2.1 215 = .ok (.aload_n 0, 1) := by decide +kernel
theorem dX10_goThrough_216 : decode mX10_goThrough.2.1 216 = .ok (.getfield 40, 3) := by decide +kernel
theorem dX10_goThrough_219 : decode mX10_goThrough.2.1 219 = .ok (.bipush 16, 2) := by decide +kernel
theorem dX10_goThrough_221 : decode mX10_goThrough.2.1 221 = .ok (.iaload, 1) := by decide +kernel
theorem dX10_goThrough_222 : decode mX10_goThrough.2.1 222 = .ok (.invokevirtual 189, 3) := by decide +kernel
theorem dX10_goThrough_225 : decode mX10_goThrough.2.1 225 = .ok (.goto 37, 3) := by decide +kernel
theorem dX10_goThrough_228 : decode mX10_goThrough.2.1 228 = .ok (.aload_n 0, 1) := by decide +kernel
theorem dX10_goThrough_229 : decode mX10_goThrough.2.1 229 = .ok (.iconst 4, 1) := by decide +kernel
theorem dX10_goThrough_230 : decode mX10_goThrough.2.1 230 = .ok (.iload 5, 2) := by decide +kernel
theorem dX10_goThrough_232 : decode mX10_goThrough.2.1 232 = .ok (.imul, 1) := by decide +kernel
theorem dX10_goThrough_233 : decode mX10_goThrough.2.1 233 = .ok (.aload_n 0, 1) := by decide +kernel
theorem dX10_goThrough_234 : decode mX10_goThrough.2.1 234 = .ok (.getfield 40, 3) := by decide +kernel
theorem dX10_goThrough_237 : decode mX10_goThrough.2.1 237 = .ok (.iload 4, 2) := by decide +kernel
theorem dX10_goThrough_239 : decode mX10_goThrough.2.1 239 = .ok (.iaload, 1) := by decide +kernel
theorem dX10_goThrough_240 : decode mX10_goThrough.2.1 240 = .ok (.invokevirtual 189, 3) := by decide +kernel
theorem dX10_goThrough_243 : decode mX10_goThrough.2.1 243 = .ok (.aload_n 0, 1) := by decide +kernel
theorem dX10_goThrough_244 : decode mX10_goThrough.2.1 244 = .ok (.iload_n 3, 1) := by decide +kernel
theorem dX10_goThrough_245 : decode mX10_goThrough.2.1 245 = .ok (.aload_n 0, 1) := by decide +kernel
theorem dX10_goThrough_246 : decode mX10_goThrough.2.1 246 = .ok (.getfield 40, 3) := by decide +kernel
theorem dX10_goThrough_249 : decode mX10_goThrough.2.1 249 = .ok (.iconst 4, 1) := by decide +kernel
theorem dX10_goThrough_250 : decode mX10_goThrough.2.1 250 = .ok (.iload 5, 2) := by decide +kernel
theorem dX10_goThrough_252 : decode mX10_goThrough.2.1 252 = .ok (.imul, 1) := by decide +kernel
theorem dX10_goThrough_253 : decode mX10_goThrough.2.1 253 = .ok (.iconst 3, 1) := by decide +kernel
theorem dX10_goThrough_254 : decode mX10_goThrough.2.1 254 = .ok (.iadd, 1) := by decide +kernel
theorem dX10_goThrough_255 : decode mX10_goThrough.2.1 255 = .ok (.iaload, 1) := by decide +kernel
theorem dX10_goThrough_256 : decode mX10_goThrough.2.1 256 = .ok (.invokevirtual 189, 3) := by decide +kernel
theorem dX10_goThrough_259 : decode mX10_goThrough.2.1 259 = .ok (.goto 3, 3) := by decide +kernel
theorem dX10_goThrough_262 : decode mX10_goThrough.2.1 262 = .ok (.return_, 1) := by decide +kernel
theorem dX10_findMays_0 : decode mX10_findMays.2.1 0 = .ok (.aload_n 0, 1) := by decide +kernel
theorem dX10_findMays_1 : decode mX10_findMays.2.1 1 = .ok (.invokevirtual 196, 3) := by decide +kernel
theorem dX10_findMays_4 : decode mX10_findMays.2.1 4 = .ok (.iconst 0, 1) := by decide +kernel
theorem dX10_findMays_5 : decode mX10_findMays.2.1 5 = .ok (.istore_n 1, 1) := by decide +kernel
theorem dX10_findMays_6 : decode mX10_findMays.2.1 6 = .ok (.iload_n 1, 1) := by decide +kernel
theorem dX10_findMays_7 : decode mX10_findMays.2.1 7 = .ok (.bipush 49, 2) := by decide +kernel
theorem dX10_findMays_9 : decode mX10_findMays.2.1 9 = .ok (.if_icmp .ge 16, 3) := by decide +kernel
theorem dX10_findMays_12 : decode mX10_findMays.2.1 12 = .ok (.aload_n 0, 1) := by decide +kernel
theorem dX10_findMays_13 : decode mX10_findMays.2.1 13 = .ok (.getfield 40, 3) := by decide +kernel
theorem dX10_findMays_16 : decode mX10_findMays.2.1 16 = .ok (.iload_n 1, 1) := by decide +kernel
theorem dX10_findMays_17 : decode mX10_findMays.2.1 17 = .ok (.iconst 0, 1) := by decide +kernel
theorem dX10_findMays_18 : decode mX10_findMays.2.1 18 = .ok (.iastore, 1) := by decide +kernel
theorem dX10_findMays_19 : decode mX10_findMays.2.1 19 = .ok (.iinc 1 1, 3) := by decide +kernel
theorem dX10_findMays_22 : decode mX10_findMays.2.1 22 = .ok (.goto (-16), 3) := by decide +kernel
theorem dX10_findMays_25 : decode mX10_findMays.2.1 25 = .ok (.aload_n 0, 1) := by decide +kernel
theorem dX10_findMays_26 : decode mX10_findMays.2.1 26 = .ok (.iconst 1, 1) := by decide +kernel
theorem dX10_findMays_27 : decode mX10_findMays.2.1 27 = .ok (.putfield 182, 3) := by decide +kernel
theorem dX10_findMays_30 : decode mX10_findMays.2.1 30 = .ok (.aload_n 0, 1) := by decide +kernel
theorem dX10_findMays_31 : decode mX10_findMays.2.1 31 = .ok (.getfield 182, 3) := by decide +kernel
theorem dX10_findMays_34 : decode mX10_findMays.2.1 34 = .ok (.ifCond .eq 52, 3) := by decide +kernel
theorem dX10_findMays_37 : decode mX10_findMays.2.1 37 = .ok (.aload_n 0, 1) := by decide +kernel
theorem dX10_findMays_38 : decode mX10_findMays.2.1 38 = .ok (.iconst 0, 1) := by decide +kernel
theorem dX10_findMays_39 : decode mX10_findMays.2.1 39 = .ok (.putfield 182, 3) := by decide +kernel
theorem dX10_findMays_42 : decode mX10_findMays.2.1 42 = .ok (.iconst 0, 1) := by decide +kernel
theorem dX10_findMays_43 : decode mX10_findMays.2.1 43 = .ok (.istore_n 1, 1) := by decide +kernel
theorem dX10_findMays_44 : decode mX10_findMays.2.1 44 = .ok (.iload_n 1, 1) := by decide +kernel
theorem dX10_findMays_45 : decode mX10_findMays.2.1 45 = .ok (.aload_n 0, 1) := by decide +kernel
theorem dX10_findMays_46 : decode mX10_findMays.2.1 46 = .ok (.getfield 7, 3) := by decide +kernel
theorem dX10_findMays_49 : decode mX10_findMays.2.1 49 = .ok (.iconst 0, 1) := by decide +kernel
theorem dX10_findMays_50 : decode mX10_findMays.2.1 50 = .ok (.iaload, 1) := by decide +kernel
theorem dX10_findMays_51 : decode mX10_findMays.2.1 51 = .ok (.if_icmp .ge 32, 3) := by decide +kernel
theorem dX10_findMays_54 : decode mX10_findMays.2.1 54 = .ok (.iconst 0, 1) := by decide +kernel
theorem dX10_findMays_55 : decode mX10_findMays.2.1 55 = .ok (.istore_n 2, 1) := by decide +kernel
theorem dX10_findMays_56 : decode mX10_findMays.2.1 56 = .ok (.iload_n 2, 1) := by decide +kernel
theorem dX10_findMays_57 : decode mX10_findMays.2.1 57 = .ok (.aload_n 0, 1) := by decide +kernel
theorem dX10_findMays_58 : decode mX10_findMays.2.1 58 = .ok (.iload_n 1, 1) := by decide +kernel
theorem dX10_findMays_59 : decode mX10_findMays.2.1 59 = .ok (.invokevirtual 168, 3) := by decide +kernel
theorem dX10_findMays_62 : decode mX10_findMays.2.1 62 = .ok (.if_icmp .ge 15, 3) := by decide +kernel
theorem dX10_findMays_65 : decode mX10_findMays.2.1 65 = .ok (.aload_n 0, 1) := by decide +kernel
theorem dX10_findMays_66 : decode mX10_findMays.2.1 66 = .ok (.iload_n 1, 1) := by decide +kernel
theorem dX10_findMays_67 : decode mX10_findMays.2.1 67 = .ok (.iload_n 2, 1) := by decide +kernel
theorem dX10_findMays_68 : decode mX10_findMays.2.1 68 = .ok (.invokevirtual 199, 3) := by decide +kernel
theorem dX10_findMays_71 : decode mX10_findMays.2.1 71 = .ok (.iinc 2 1, 3) := by decide +kernel
theorem dX10_findMays_74 : decode mX10_findMays.2.1 74 = .ok (.goto (-18), 3) := by decide +kernel
theorem dX10_findMays_77 : decode mX10_findMays.2.1 77 = .ok (.iinc 1 1, 3) := by decide +kernel
theorem dX10_findMays_80 : decode mX10_findMays.2.1 80 = .ok (.goto (-36), 3) := by decide +kernel
theorem dX10_findMays_83 : decode mX10_findMays.2.1 83 = .ok (.goto (-53), 3) := by decide +kernel
theorem dX10_findMays_86 : decode mX10_findMays.2.1 86 = .ok (.return_, 1) := by decide +kernel
theorem dX10_reachedFrom_0 : decode mX10_reachedFrom.2.1 0 = .ok (.iload_n 1, 1) := by decide +kernel
theorem dX10_reachedFrom_1 : decode mX10_reachedFrom.2.1 1 = .ok (.istore_n 2, 1) := by decide +kernel
theorem dX10_reachedFrom_2 : decode mX10_reachedFrom.2.1 2 = .ok (.iconst 0, 1) := by decide +kernel
theorem dX10_reachedFrom_3 : decode mX10_reachedFrom.2.1 3 = .ok (.istore_n 3, 1) := by decide +kernel
theorem dX10_reachedFrom_4 : decode mX10_reachedFrom.2.1 4 = .ok (.iload_n 2, 1) := by decide +kernel
theorem dX10_reachedFrom_5 : decode mX10_reachedFrom.2.1 5 = .ok (.iload_n 3, 1) := by decide +kernel
theorem dX10_reachedFrom_6 : decode mX10_reachedFrom.2.1 6 = .ok (.if_icmp .eq 16, 3) := by decide +kernel
theorem dX10_reachedFrom_9 : decode mX10_reachedFrom.2.1 9 = .ok (.iload_n 2, 1) := by decide +kernel
theorem dX10_reachedFrom_10 : decode mX10_reachedFrom.2.1 10 = .ok (.istore_n 3, 1) := by decide +kernel
theorem dX10_reachedFrom_11 : decode mX10_reachedFrom.2.1 11 = .ok (.iload_n 2, 1) := by decide +kernel
theorem dX10_reachedFrom_12 : decode mX10_reachedFrom.2.1 12 = .ok (.aload_n 0, 1) := by decide +kernel
theorem dX10_reachedFrom_13 : decode mX10_reachedFrom.2.1 13 = .ok (.iload_n 2, 1) := by decide +kernel
theorem dX10_reachedFrom_14 : decode mX10_reachedFrom.2.1 14 = .ok (.invokevirtual 193, 3) := by decide +kernel
theorem dX10_reachedFrom_17 : decode mX10_reachedFrom.2.1 17 = .ok (.ior, 1) := by decide +kernel
theorem dX10_reachedFrom_18 : decode mX10_reachedFrom.2.1 18 = .ok (.istore_n 2, 1) := by decide +kernel
theorem dX10_reachedFrom_19 : decode mX10_reachedFrom.2.1 19 = .ok (.goto (-15), 3) := by decide +kernel
theorem dX10_reachedFrom_22 : decode mX10_reachedFrom.2.1 22 = .ok (.iload_n 2, 1) := by decide +kernel
theorem dX10_reachedFrom_23 : decode mX10_reachedFrom.2.1 23 = .ok (.ireturn, 1) := by decide +kernel
theorem dX10_fateOf_0 : decode mX10_fateOf.2.1 0 = .ok (.aload_n 0, 1) := by decide +kernel
theorem dX10_fateOf_1 : decode mX10_fateOf.2.1 1 = .ok (.getfield 31, 3) := by decide +kernel
theorem dX10_fateOf_4 : decode mX10_fateOf.2.1 4 = .ok (.iload_n 1, 1) := by decide +kernel
theorem dX10_fateOf_5 : decode mX10_fateOf.2.1 5 = .ok (.iaload, 1) := by decide +kernel
theorem dX10_fateOf_6 : decode mX10_fateOf.2.1 6 = .ok (.istore_n 2, 1) := by decide +kernel
theorem dX10_fateOf_7 : decode mX10_fateOf.2.1 7 = .ok (.aload_n 0, 1) := by decide +kernel
theorem dX10_fateOf_8 : decode mX10_fateOf.2.1 8 = .ok (.aload_n 0, 1) := by decide +kernel
theorem dX10_fateOf_9 : decode mX10_fateOf.2.1 9 = .ok (.getfield 40, 3) := by decide +kernel
theorem dX10_fateOf_12 : decode mX10_fateOf.2.1 12 = .ok (.bipush 16, 2) := by decide +kernel
theorem dX10_fateOf_14 : decode mX10_fateOf.2.1 14 = .ok (.iaload, 1) := by decide +kernel
theorem dX10_fateOf_15 : decode mX10_fateOf.2.1 15 = .ok (.invokevirtual 202, 3) := by decide +kernel
theorem dX10_fateOf_18 : decode mX10_fateOf.2.1 18 = .ok (.iload_n 1, 1) := by decide +kernel
theorem dX10_fateOf_19 : decode mX10_fateOf.2.1 19 = .ok (.invokestatic 186, 3) := by decide +kernel
theorem dX10_fateOf_22 : decode mX10_fateOf.2.1 22 = .ok (.ifCond .eq 7, 3) := by decide +kernel
theorem dX10_fateOf_25 : decode mX10_fateOf.2.1 25 = .ok (.iconst 2, 1) := by decide +kernel
theorem dX10_fateOf_26 : decode mX10_fateOf.2.1 26 = .ok (.goto 38, 3) := by decide +kernel
theorem dX10_fateOf_29 : decode mX10_fateOf.2.1 29 = .ok (.aload_n 0, 1) := by decide +kernel
theorem dX10_fateOf_30 : decode mX10_fateOf.2.1 30 = .ok (.aload_n 0, 1) := by decide +kernel
theorem dX10_fateOf_31 : decode mX10_fateOf.2.1 31 = .ok (.getfield 40, 3) := by decide +kernel
theorem dX10_fateOf_34 : decode mX10_fateOf.2.1 34 = .ok (.iconst 4, 1) := by decide +kernel
theorem dX10_fateOf_35 : decode mX10_fateOf.2.1 35 = .ok (.iload_n 2, 1) := by decide +kernel
theorem dX10_fateOf_36 : decode mX10_fateOf.2.1 36 = .ok (.imul, 1) := by decide +kernel
theorem dX10_fateOf_37 : decode mX10_fateOf.2.1 37 = .ok (.iaload, 1) := by decide +kernel
theorem dX10_fateOf_38 : decode mX10_fateOf.2.1 38 = .ok (.aload_n 0, 1) := by decide +kernel
theorem dX10_fateOf_39 : decode mX10_fateOf.2.1 39 = .ok (.getfield 40, 3) := by decide +kernel
theorem dX10_fateOf_42 : decode mX10_fateOf.2.1 42 = .ok (.iconst 4, 1) := by decide +kernel
theorem dX10_fateOf_43 : decode mX10_fateOf.2.1 43 = .ok (.iload_n 2, 1) := by decide +kernel
theorem dX10_fateOf_44 : decode mX10_fateOf.2.1 44 = .ok (.imul, 1) := by decide +kernel
theorem dX10_fateOf_45 : decode mX10_fateOf.2.1 45 = .ok (.iconst 3, 1) := by decide +kernel
theorem dX10_fateOf_46 : decode mX10_fateOf.2.1 46 = .ok (.iadd, 1) := by decide +kernel
theorem dX10_fateOf_47 : decode mX10_fateOf.2.1 47 = .ok (.iaload, 1) := by decide +kernel
theorem dX10_fateOf_48 : decode mX10_fateOf.2.1 48 = .ok (.ior, 1) := by decide +kernel
theorem dX10_fateOf_49 : decode mX10_fateOf.2.1 49 = .ok (.invokevirtual 202, 3) := by decide +kernel
theorem dX10_fateOf_52 : decode mX10_fateOf.2.1 52 = .ok (.iload_n 1, 1) := by decide +kernel
theorem dX10_fateOf_53 : decode mX10_fateOf.2.1 53 = .ok (.invokestatic 186, 3) := by decide +kernel
theorem dX10_fateOf_56 : decode mX10_fateOf.2.1 56 = .ok (.ifCond .eq 7, 3) := by decide +kernel
theorem dX10_fateOf_59 : decode mX10_fateOf.2.1 59 = .ok (.iconst 1, 1) := by decide +kernel
theorem dX10_fateOf_60 : decode mX10_fateOf.2.1 60 = .ok (.goto 4, 3) := by decide +kernel
theorem dX10_fateOf_63 : decode mX10_fateOf.2.1 63 = .ok (.iconst 0, 1) := by decide +kernel
theorem dX10_fateOf_64 : decode mX10_fateOf.2.1 64 = .ok (.ireturn, 1) := by decide +kernel
theorem dX10_fated_0 : decode mX10_fated.2.1 0 = .ok (.iconst 0, 1) := by decide +kernel
theorem dX10_fated_1 : decode mX10_fated.2.1 1 = .ok (.istore_n 2, 1) := by decide +kernel
theorem dX10_fated_2 : decode mX10_fated.2.1 2 = .ok (.iconst 0, 1) := by decide +kernel
theorem dX10_fated_3 : decode mX10_fated.2.1 3 = .ok (.istore_n 3, 1) := by decide +kernel
theorem dX10_fated_4 : decode mX10_fated.2.1 4 = .ok (.iload_n 3, 1) := by decide +kernel
theorem dX10_fated_5 : decode mX10_fated.2.1 5 = .ok (.aload_n 0, 1) := by decide +kernel
theorem dX10_fated_6 : decode mX10_fated.2.1 6 = .ok (.getfield 175, 3) := by decide +kernel
theorem dX10_fated_9 : decode mX10_fated.2.1 9 = .ok (.if_icmp .ge 28, 3) := by decide +kernel
theorem dX10_fated_12 : decode mX10_fated.2.1 12 = .ok (.iload_n 2, 1) := by decide +kernel
theorem dX10_fated_13 : decode mX10_fated.2.1 13 = .ok (.aload_n 0, 1) := by decide +kernel
theorem dX10_fated_14 : decode mX10_fated.2.1 14 = .ok (.iload_n 3, 1) := by decide +kernel
theorem dX10_fated_15 : decode mX10_fated.2.1 15 = .ok (.invokevirtual 205, 3) := by decide +kernel
theorem dX10_fated_18 : decode mX10_fated.2.1 18 = .ok (.iload_n 1, 1) := by decide +kernel
theorem dX10_fated_19 : decode mX10_fated.2.1 19 = .ok (.if_icmp .ne 9, 3) := by decide +kernel
theorem dX10_fated_22 : decode mX10_fated.2.1 22 = .ok (.iconst 1, 1) := by decide +kernel
theorem dX10_fated_23 : decode mX10_fated.2.1 23 = .ok (.iload_n 3, 1) := by decide +kernel
theorem dX10_fated_24 : decode mX10_fated.2.1 24 = .ok (.ishl, 1) := by decide +kernel
theorem dX10_fated_25 : decode mX10_fated.2.1 25 = .ok (.goto 4, 3) := by decide +kernel
theorem dX10_fated_28 : decode mX10_fated.2.1 28 = .ok (.iconst 0, 1) := by decide +kernel
theorem dX10_fated_29 : decode mX10_fated.2.1 29 = .ok (.ior, 1) := by decide +kernel
theorem dX10_fated_30 : decode mX10_fated.2.1 30 = .ok (.istore_n 2, 1) := by decide +kernel
theorem dX10_fated_31 : decode mX10_fated.2.1 31 = .ok (.iinc 3 1, 3) := by decide +kernel
theorem dX10_fated_34 : decode mX10_fated.2.1 34 = .ok (.goto (-30), 3) := by decide +kernel
theorem dX10_fated_37 : decode mX10_fated.2.1 37 = .ok (.iload_n 2, 1) := by decide +kernel
theorem dX10_fated_38 : decode mX10_fated.2.1 38 = .ok (.ireturn, 1) := by decide +kernel
theorem dX10_idleOf_0 : decode mX10_idleOf.2.1 0 = .ok (.aload_n 0, 1) := by decide +kernel
theorem dX10_idleOf_1 : decode mX10_idleOf.2.1 1 = .ok (.iconst 0, 1) := by decide +kernel
theorem dX10_idleOf_2 : decode mX10_idleOf.2.1 2 = .ok (.invokevirtual 208, 3) := by decide +kernel
theorem dX10_idleOf_5 : decode mX10_idleOf.2.1 5 = .ok (.istore_n 2, 1) := by decide +kernel
theorem dX10_idleOf_6 : decode mX10_idleOf.2.1 6 = .ok (.iconst 0, 1) := by decide +kernel
theorem dX10_idleOf_7 : decode mX10_idleOf.2.1 7 = .ok (.istore_n 3, 1) := by decide +kernel
theorem dX10_idleOf_8 : decode mX10_idleOf.2.1 8 = .ok (.iconst 0, 1) := by decide +kernel
theorem dX10_idleOf_9 : decode mX10_idleOf.2.1 9 = .ok (.istore 4, 2) := by decide +kernel
theorem dX10_idleOf_11 : decode mX10_idleOf.2.1 11 = .ok (.iload 4, 2) := by decide +kernel
theorem dX10_idleOf_13 : decode mX10_idleOf.2.1 13 = .ok (.aload_n 0, 1) := by decide +kernel
theorem dX10_idleOf_14 : decode mX10_idleOf.2.1 14 = .ok (.iload_n 1, 1) := by decide +kernel
theorem dX10_idleOf_15 : decode mX10_idleOf.2.1 15 = .ok (.invokevirtual 168, 3) := by decide +kernel
theorem dX10_idleOf_18 : decode mX10_idleOf.2.1 18 = .ok (.if_icmp .ge 83, 3) := by decide +kernel
theorem dX10_idleOf_21 : decode mX10_idleOf.2.1 21 = .ok (.aload_n 0, 1) := by decide +kernel
theorem dX10_idleOf_22 : decode mX10_idleOf.2.1 22 = .ok (.getfield 40, 3) := by decide +kernel
theorem dX10_idleOf_25 : decode mX10_idleOf.2.1 25 = .ok (.iconst 4, 1) := by decide +kernel
theorem dX10_idleOf_26 : decode mX10_idleOf.2.1 26 = .ok (.iload_n 1, 1) := by decide +kernel
theorem dX10_idleOf_27 : decode mX10_idleOf.2.1 27 = .ok (.imul, 1) := by decide +kernel
theorem dX10_idleOf_28 : decode mX10_idleOf.2.1 28 = .ok (.aload_n 0, 1) := by decide +kernel
theorem dX10_idleOf_29 : decode mX10_idleOf.2.1 29 = .ok (.iload_n 1, 1) := by decide +kernel
theorem dX10_idleOf_30 : decode mX10_idleOf.2.1 30 = .ok (.iload 4, 2) := by decide +kernel
theorem dX10_idleOf_32 : decode mX10_idleOf.2.1 32 = .ok (.iconst 0, 1) := by decide +kernel
theorem dX10_idleOf_33 : decode mX10_idleOf.2.1 33 = .ok (.invokevirtual 178, 3) := by decide +kernel
theorem dX10_idleOf_36 : decode mX10_idleOf.2.1 36 = .ok (.bipush 6, 2) := by decide +kernel
theorem dX10_idleOf_38 : decode mX10_idleOf.2.1 38 = .ok (.if_icmp .ne 14, 3) := by decide +kernel
theorem dX10_idleOf_41 : decode mX10_idleOf.2.1 41 = .ok (.aload_n 0, 1) := by decide +kernel
theorem dX10_idleOf_42 : decode mX10_idleOf.2.1 42 = .ok (.iload_n 1, 1) := by decide +kernel
theorem dX10_idleOf_43 : decode mX10_idleOf.2.1 43 = .ok (.iload 4, 2) := by decide +kernel
theorem dX10_idleOf_45 : decode mX10_idleOf.2.1 45 = .ok (.iconst 1, 1) := by decide +kernel
theorem dX10_idleOf_46 : decode mX10_idleOf.2.1 46 = .ok (.invokevirtual 178, 3) := by decide +kernel
theorem dX10_idleOf_49 : decode mX10_idleOf.2.1 49 = .ok (.goto 4, 3) := by decide +kernel
theorem dX10_idleOf_52 : decode mX10_idleOf.2.1 52 = .ok (.iconst 0, 1) := by decide +kernel
theorem dX10_idleOf_53 : decode mX10_idleOf.2.1 53 = .ok (.iadd, 1) := by decide +kernel
theorem dX10_idleOf_54 : decode mX10_idleOf.2.1 54 = .ok (.iaload, 1) := by decide +kernel
theorem dX10_idleOf_55 : decode mX10_idleOf.2.1 55 = .ok (.istore 5, 2) := by decide +kernel
theorem dX10_idleOf_57 : decode mX10_idleOf.2.1 57 = .ok (.iload_n 3, 1) := by decide +kernel
theorem dX10_idleOf_58 : decode mX10_idleOf.2.1 58 = .ok (.aload_n 0, 1) := by decide +kernel
theorem dX10_idleOf_59 : decode mX10_idleOf.2.1 59 = .ok (.iload_n 1, 1) := by decide +kernel
theorem dX10_idleOf_60 : decode mX10_idleOf.2.1 60 = .ok (.iload 4, 2) := by decide +kernel
theorem dX10_idleOf_62 : decode mX10_idleOf.2.1 62 = .ok (.iconst 0, 1) := by decide +kernel
theorem dX10_idleOf_63 : decode mX10_idleOf.2.1 63 = .ok (.invokevirtual 178, 3) := by decide +kernel
theorem dX10_idleOf_66 : decode mX10_idleOf.2.1 66 = .ok (.bipush 6, 2) := by decide +kernel
theorem dX10_idleOf_68 : decode mX10_idleOf.2.1 68 = .ok (.if_icmp .ne 24, 3) := by decide +kernel
theorem dX10_idleOf_71 : decode mX10_idleOf.2.1 71 = .ok (.iload 5, 2) := by decide +kernel
theorem dX10_idleOf_73 : decode mX10_idleOf.2.1 73 = .ok (.ifCond .eq 19, 3) := by decide +kernel
theorem dX10_idleOf_76 : decode mX10_idleOf.2.1 76 = .ok (.iload 5, 2) := by decide +kernel
theorem dX10_idleOf_78 : decode mX10_idleOf.2.1 78 = .ok (.iload_n 2, 1) := by decide +kernel
theorem dX10_idleOf_79 : decode mX10_idleOf.2.1 79 = .ok (.iconst (-1), 1) := by decide +kernel
theorem dX10_idleOf_80 : decode mX10_idleOf.2.1 80 = .ok (.ixor, 1) := by decide +kernel
theorem dX10_idleOf_81 : decode mX10_idleOf.2.1 81 = .ok (.iand, 1) := by decide +kernel
theorem dX10_idleOf_82 : decode mX10_idleOf.2.1 82 = .ok (.ifCond .ne 10, 3) := by decide +kernel
theorem dX10_idleOf_85 : decode mX10_idleOf.2.1 85 = .ok (.iconst 1, 1) := by decide +kernel
theorem dX10_idleOf_86 : decode mX10_idleOf.2.1 86 = .ok (.iload 4, 2) := by decide +kernel
theorem dX10_idleOf_88 : decode mX10_idleOf.2.1 88 = .ok (.ishl, 1) := by decide +kernel
theorem dX10_idleOf_89 : decode mX10_idleOf.2.1 89 = .ok (.goto 4, 3) := by decide +kernel
theorem dX10_idleOf_92 : decode mX10_idleOf.2.1 92 = .ok (.iconst 0, 1) := by decide +kernel
theorem dX10_idleOf_93 : decode mX10_idleOf.2.1 93 = .ok (.ior, 1) := by decide +kernel
theorem dX10_idleOf_94 : decode mX10_idleOf.2.1 94 = .ok (.istore_n 3, 1) := by decide +kernel
theorem dX10_idleOf_95 : decode mX10_idleOf.2.1 95 = .ok (.iinc 4 1, 3) := by decide +kernel
theorem dX10_idleOf_98 : decode mX10_idleOf.2.1 98 = .ok (.goto (-87), 3) := by decide +kernel
theorem dX10_idleOf_101 : decode mX10_idleOf.2.1 101 = .ok (.iload_n 3, 1) := by decide +kernel
theorem dX10_idleOf_102 : decode mX10_idleOf.2.1 102 = .ok (.ireturn, 1) := by decide +kernel
theorem dX10_ones_0 : decode mX10_ones.2.1 0 = .ok (.iconst 0, 1) := by decide +kernel
theorem dX10_ones_1 : decode mX10_ones.2.1 1 = .ok (.istore_n 1, 1) := by decide +kernel
theorem dX10_ones_2 : decode mX10_ones.2.1 2 = .ok (.iconst 0, 1) := by decide +kernel
theorem dX10_ones_3 : decode mX10_ones.2.1 3 = .ok (.istore_n 2, 1) := by decide +kernel
theorem dX10_ones_4 : decode mX10_ones.2.1 4 = .ok (.iload_n 2, 1) := by decide +kernel
theorem dX10_ones_5 : decode mX10_ones.2.1 5 = .ok (.bipush 32, 2) := by decide +kernel
theorem dX10_ones_7 : decode mX10_ones.2.1 7 = .ok (.if_icmp .ge 17, 3) := by decide +kernel
theorem dX10_ones_10 : decode mX10_ones.2.1 10 = .ok (.iload_n 1, 1) := by decide +kernel
theorem dX10_ones_11 : decode mX10_ones.2.1 11 = .ok (.iload_n 0, 1) := by decide +kernel
theorem dX10_ones_12 : decode mX10_ones.2.1 12 = .ok (.iload_n 2, 1) := by decide +kernel
theorem dX10_ones_13 : decode mX10_ones.2.1 13 = .ok (.ishr, 1) := by decide +kernel
theorem dX10_ones_14 : decode mX10_ones.2.1 14 = .ok (.iconst 1, 1) := by decide +kernel
theorem dX10_ones_15 : decode mX10_ones.2.1 15 = .ok (.iand, 1) := by decide +kernel
theorem dX10_ones_16 : decode mX10_ones.2.1 16 = .ok (.iadd, 1) := by decide +kernel
theorem dX10_ones_17 : decode mX10_ones.2.1 17 = .ok (.istore_n 1, 1) := by decide +kernel
theorem dX10_ones_18 : decode mX10_ones.2.1 18 = .ok (.iinc 2 1, 3) := by decide +kernel
theorem dX10_ones_21 : decode mX10_ones.2.1 21 = .ok (.goto (-17), 3) := by decide +kernel
theorem dX10_ones_24 : decode mX10_ones.2.1 24 = .ok (.iload_n 1, 1) := by decide +kernel
theorem dX10_ones_25 : decode mX10_ones.2.1 25 = .ok (.ireturn, 1) := by decide +kernel
theorem dX10_ofMethod_0 : decode mX10_ofMethod.2.1 0 = .ok (.iload_n 2, 1) := by decide +kernel
theorem dX10_ofMethod_1 : decode mX10_ofMethod.2.1 1 = .ok (.ifCond .ne 9, 3) := by decide +kernel
theorem dX10_ofMethod_4 : decode mX10_ofMethod.2.1 4 = .ok (.aload_n 0, 1) := by decide +kernel
theorem dX10_ofMethod_5 : decode mX10_ofMethod.2.1 5 = .ok (.iload_n 1, 1) := by decide +kernel
theorem dX10_ofMethod_6 : decode mX10_ofMethod.2.1 6 = .ok (.invokevirtual 168, 3) := by decide +kernel
theorem dX10_ofMethod_9 : decode mX10_ofMethod.2.1 9 = .ok (.ireturn, 1) := by decide +kernel
theorem dX10_ofMethod_10 : decode mX10_ofMethod.2.1 10 = .ok (.iload_n 2, 1) := by decide +kernel
theorem dX10_ofMethod_11 : decode mX10_ofMethod.2.1 11 = .ok (.iconst 3, 1) := by decide +kernel
theorem dX10_ofMethod_12 : decode mX10_ofMethod.2.1 12 = .ok (.if_icmp .ne 9, 3) := by decide +kernel
theorem dX10_ofMethod_15 : decode mX10_ofMethod.2.1 15 = .ok (.aload_n 0, 1) := by decide +kernel
theorem dX10_ofMethod_16 : decode mX10_ofMethod.2.1 16 = .ok (.iload_n 1, 1) := by decide +kernel
theorem dX10_ofMethod_17 : decode mX10_ofMethod.2.1 17 = .ok (.invokevirtual 211, 3) := by decide +kernel
theorem dX10_ofMethod_20 : decode mX10_ofMethod.2.1 20 = .ok (.ireturn, 1) := by decide +kernel
theorem dX10_ofMethod_21 : decode mX10_ofMethod.2.1 21 = .ok (.iconst 0, 1) := by decide +kernel
theorem dX10_ofMethod_22 : decode mX10_ofMethod.2.1 22 = .ok (.istore_n 3, 1) := by decide +kernel
theorem dX10_ofMethod_23 : decode mX10_ofMethod.2.1 23 = .ok (.iconst 0, 1) := by decide +kernel
theorem dX10_ofMethod_24 : decode mX10_ofMethod.2.1 24 = .ok (.istore 4, 2) := by decide +kernel
theorem dX10_ofMethod_26 : decode mX10_ofMethod.2.1 26 = .ok (.iconst 0, 1) := by decide +kernel
theorem dX10_ofMethod_27 : decode mX10_ofMethod.2.1 27 = .ok (.istore 5, 2) := by decide +kernel
theorem dX10_ofMethod_29 : decode mX10_ofMethod.2.1 29 = .ok (.iload 5, 2) := by decide +kernel
theorem dX10_ofMethod_31 : decode mX10_ofMethod.2.1 31 = .ok (.aload_n 0, 1) := by decide +kernel
theorem dX10_ofMethod_32 : decode mX10_ofMethod.2.1 32 = .ok (.getfield 175, 3) := by decide +kernel
theorem dX10_ofMethod_35 : decode mX10_ofMethod.2.1 35 = .ok (.if_icmp .ge 42, 3) := by decide +kernel
theorem dX10_ofMethod_38 : decode mX10_ofMethod.2.1 38 = .ok (.iload_n 3, 1) := by decide +kernel
theorem dX10_ofMethod_39 : decode mX10_ofMethod.2.1 39 = .ok (.aload_n 0, 1) := by decide +kernel
theorem dX10_ofMethod_40 : decode mX10_ofMethod.2.1 40 = .ok (.getfield 31, 3) := by decide +kernel
theorem dX10_ofMethod_43 : decode mX10_ofMethod.2.1 43 = .ok (.iload 5, 2) := by decide +kernel
theorem dX10_ofMethod_45 : decode mX10_ofMethod.2.1 45 = .ok (.iaload, 1) := by decide +kernel
theorem dX10_ofMethod_46 : decode mX10_ofMethod.2.1 46 = .ok (.iload_n 1, 1) := by decide +kernel
theorem dX10_ofMethod_47 : decode mX10_ofMethod.2.1 47 = .ok (.if_icmp .ne 21, 3) := by decide +kernel
theorem dX10_ofMethod_50 : decode mX10_ofMethod.2.1 50 = .ok (.iload_n 2, 1) := by decide +kernel
theorem dX10_ofMethod_51 : decode mX10_ofMethod.2.1 51 = .ok (.iconst 1, 1) := by decide +kernel
theorem dX10_ofMethod_52 : decode mX10_ofMethod.2.1 52 = .ok (.if_icmp .eq 12, 3) := by decide +kernel
theorem dX10_ofMethod_55 : decode mX10_ofMethod.2.1 55 = .ok (.aload_n 0, 1) := by decide +kernel
theorem dX10_ofMethod_56 : decode mX10_ofMethod.2.1 56 = .ok (.iload 5, 2) := by decide +kernel
theorem dX10_ofMethod_58 : decode mX10_ofMethod.2.1 58 = .ok (.invokevirtual 205, 3) := by decide +kernel
theorem dX10_ofMethod_61 : decode mX10_ofMethod.2.1 61 = .ok (.ifCond .ne 7, 3) := by decide +kernel
theorem dX10_ofMethod_64 : decode mX10_ofMethod.2.1 64 = .ok (.iconst 1, 1) := by decide +kernel
theorem dX10_ofMethod_65 : decode mX10_ofMethod.2.1 65 = .ok (.goto 4, 3) := by decide +kernel
theorem dX10_ofMethod_68 : decode mX10_ofMethod.2.1 68 = .ok (.iconst 0, 1) := by decide +kernel
theorem dX10_ofMethod_69 : decode mX10_ofMethod.2.1 69 = .ok (.iadd, 1) := by decide +kernel
theorem dX10_ofMethod_70 : decode mX10_ofMethod.2.1 70 = .ok (.istore_n 3, 1) := by decide +kernel
theorem dX10_ofMethod_71 : decode mX10_ofMethod.2.1 71 = .ok (.iinc 5 1, 3) := by decide +kernel
theorem dX10_ofMethod_74 : decode mX10_ofMethod.2.1 74 = .ok (.goto (-45), 3) := by decide +kernel
theorem dX10_ofMethod_77 : decode mX10_ofMethod.2.1 77 = .ok (.iconst 0, 1) := by decide +kernel
theorem dX10_ofMethod_78 : decode mX10_ofMethod.2.1 78 = .ok (.istore 5, 2) := by decide +kernel
theorem dX10_ofMethod_80 : decode mX10_ofMethod.2.1 80 = .ok (.iload 5, 2) := by decide +kernel
theorem dX10_ofMethod_82 : decode mX10_ofMethod.2.1 82 = .ok (.aload_n 0, 1) := by decide +kernel
theorem dX10_ofMethod_83 : decode mX10_ofMethod.2.1 83 = .ok (.iload_n 1, 1) := by decide +kernel
theorem dX10_ofMethod_84 : decode mX10_ofMethod.2.1 84 = .ok (.invokevirtual 168, 3) := by decide +kernel
theorem dX10_ofMethod_87 : decode mX10_ofMethod.2.1 87 = .ok (.if_icmp .ge 41, 3) := by decide +kernel
theorem dX10_ofMethod_90 : decode mX10_ofMethod.2.1 90 = .ok (.iload 4, 2) := by decide +kernel
theorem dX10_ofMethod_92 : decode mX10_ofMethod.2.1 92 = .ok (.aload_n 0, 1) := by decide +kernel
theorem dX10_ofMethod_93 : decode mX10_ofMethod.2.1 93 = .ok (.iload_n 1, 1) := by decide +kernel
theorem dX10_ofMethod_94 : decode mX10_ofMethod.2.1 94 = .ok (.iload 5, 2) := by decide +kernel
theorem dX10_ofMethod_96 : decode mX10_ofMethod.2.1 96 = .ok (.iconst 0, 1) := by decide +kernel
theorem dX10_ofMethod_97 : decode mX10_ofMethod.2.1 97 = .ok (.invokevirtual 178, 3) := by decide +kernel
theorem dX10_ofMethod_100 : decode mX10_ofMethod.2.1 100 = .ok (.bipush 7, 2) := by decide +kernel
theorem dX10_ofMethod_102 : decode mX10_ofMethod.2.1 102 = .ok (.if_icmp .ne 16, 3) := by decide +kernel
theorem dX10_ofMethod_105 : decode mX10_ofMethod.2.1 105 = .ok (.iconst 1, 1) := by decide +kernel
theorem dX10_ofMethod_106 : decode mX10_ofMethod.2.1 106 = .ok (.aload_n 0, 1) := by decide +kernel
theorem dX10_ofMethod_107 : decode mX10_ofMethod.2.1 107 = .ok (.iload_n 1, 1) := by decide +kernel
theorem dX10_ofMethod_108 : decode mX10_ofMethod.2.1 108 = .ok (.iload 5, 2) := by decide +kernel
theorem dX10_ofMethod_110 : decode mX10_ofMethod.2.1 110 = .ok (.iconst 3, 1) := by decide +kernel
theorem dX10_ofMethod_111 : decode mX10_ofMethod.2.1 111 = .ok (.invokevirtual 178, 3) := by decide +kernel
theorem dX10_ofMethod_114 : decode mX10_ofMethod.2.1 114 = .ok (.ishl, 1) := by decide +kernel
theorem dX10_ofMethod_115 : decode mX10_ofMethod.2.1 115 = .ok (.goto 4, 3) := by decide +kernel
theorem dX10_ofMethod_118 : decode mX10_ofMethod.2.1 118 = .ok (.iconst 0, 1) := by decide +kernel
theorem dX10_ofMethod_119 : decode mX10_ofMethod.2.1 119 = .ok (.ior, 1) := by decide +kernel
theorem dX10_ofMethod_120 : decode mX10_ofMethod.2.1 120 = .ok (.istore 4, 2) := by decide +kernel
theorem dX10_ofMethod_122 : decode mX10_ofMethod.2.1 122 = .ok (.iinc 5 1, 3) := by decide +kernel
theorem dX10_ofMethod_125 : decode mX10_ofMethod.2.1 125 = .ok (.goto (-45), 3) := by decide +kernel
theorem dX10_ofMethod_128 : decode mX10_ofMethod.2.1 128 = .ok (.iload_n 2, 1) := by decide +kernel
theorem dX10_ofMethod_129 : decode mX10_ofMethod.2.1 129 = .ok (.iconst 4, 1) := by decide +kernel
theorem dX10_ofMethod_130 : decode mX10_ofMethod.2.1 130 = .ok (.if_icmp .ne 8, 3) := by decide +kernel
theorem dX10_ofMethod_133 : decode mX10_ofMethod.2.1 133 = .ok (.iload 4, 2) := by decide +kernel
theorem dX10_ofMethod_135 : decode mX10_ofMethod.2.1 135 = .ok (.goto 4, 3) := by decide +kernel
theorem dX10_ofMethod_138 : decode mX10_ofMethod.2.1 138 = .ok (.iload_n 3, 1) := by decide +kernel
theorem dX10_ofMethod_139 : decode mX10_ofMethod.2.1 139 = .ok (.ireturn, 1) := by decide +kernel
theorem dX10_of_0 : decode mX10_of.2.1 0 = .ok (.aload_n 0, 1) := by decide +kernel
theorem dX10_of_1 : decode mX10_of.2.1 1 = .ok (.iload_n 1, 1) := by decide +kernel
theorem dX10_of_2 : decode mX10_of.2.1 2 = .ok (.invokevirtual 165, 3) := by decide +kernel
theorem dX10_of_5 : decode mX10_of.2.1 5 = .ok (.ifCond .eq 12, 3) := by decide +kernel
theorem dX10_of_8 : decode mX10_of.2.1 8 = .ok (.iload_n 2, 1) := by decide +kernel
theorem dX10_of_9 : decode mX10_of.2.1 9 = .ok (.iconst 0, 1) := by decide +kernel
theorem dX10_of_10 : decode mX10_of.2.1 10 = .ok (.iconst 4, 1) := by decide +kernel
theorem dX10_of_11 : decode mX10_of.2.1 11 = .ok (.invokestatic 99, 3) := by decide +kernel
theorem dX10_of_14 : decode mX10_of.2.1 14 = .ok (.ifCond .ne 10, 3) := by decide +kernel
theorem dX10_of_17 : decode mX10_of.2.1 17 = .ok (.aload_n 0, 1) := by decide +kernel
theorem dX10_of_18 : decode mX10_of.2.1 18 = .ok (.bipush (-2), 2) := by decide +kernel
theorem dX10_of_20 : decode mX10_of.2.1 20 = .ok (.invokevirtual 156, 3) := by decide +kernel
theorem dX10_of_23 : decode mX10_of.2.1 23 = .ok (.ireturn, 1) := by decide +kernel
theorem dX10_of_24 : decode mX10_of.2.1 24 = .ok (.aload_n 0, 1) := by decide +kernel
theorem dX10_of_25 : decode mX10_of.2.1 25 = .ok (.invokevirtual 214, 3) := by decide +kernel
theorem dX10_of_28 : decode mX10_of.2.1 28 = .ok (.aload_n 0, 1) := by decide +kernel
theorem dX10_of_29 : decode mX10_of.2.1 29 = .ok (.iload_n 1, 1) := by decide +kernel
theorem dX10_of_30 : decode mX10_of.2.1 30 = .ok (.iload_n 2, 1) := by decide +kernel
theorem dX10_of_31 : decode mX10_of.2.1 31 = .ok (.invokevirtual 217, 3) := by decide +kernel
theorem dX10_of_34 : decode mX10_of.2.1 34 = .ok (.ireturn, 1) := by decide +kernel
theorem dX10_ofLine_0 : decode mX10_ofLine.2.1 0 = .ok (.iload_n 3, 1) := by decide +kernel
theorem dX10_ofLine_1 : decode mX10_ofLine.2.1 1 = .ok (.iconst 4, 1) := by decide +kernel
theorem dX10_ofLine_2 : decode mX10_ofLine.2.1 2 = .ok (.if_icmp .ne 15, 3) := by decide +kernel
theorem dX10_ofLine_5 : decode mX10_ofLine.2.1 5 = .ok (.aload_n 0, 1) := by decide +kernel
theorem dX10_ofLine_6 : decode mX10_ofLine.2.1 6 = .ok (.getfield 37, 3) := by decide +kernel
theorem dX10_ofLine_9 : decode mX10_ofLine.2.1 9 = .ok (.bipush 8, 2) := by decide +kernel
theorem dX10_ofLine_11 : decode mX10_ofLine.2.1 11 = .ok (.iload_n 1, 1) := by decide +kernel
theorem dX10_ofLine_12 : decode mX10_ofLine.2.1 12 = .ok (.imul, 1) := by decide +kernel
theorem dX10_ofLine_13 : decode mX10_ofLine.2.1 13 = .ok (.iload_n 2, 1) := by decide +kernel
theorem dX10_ofLine_14 : decode mX10_ofLine.2.1 14 = .ok (.iadd, 1) := by decide +kernel
theorem dX10_ofLine_15 : decode mX10_ofLine.2.1 15 = .ok (.iaload, 1) := by decide +kernel
theorem dX10_ofLine_16 : decode mX10_ofLine.2.1 16 = .ok (.ireturn, 1) := by decide +kernel
theorem dX10_ofLine_17 : decode mX10_ofLine.2.1 17 = .ok (.aload_n 0, 1) := by decide +kernel
theorem dX10_ofLine_18 : decode mX10_ofLine.2.1 18 = .ok (.iload_n 1, 1) := by decide +kernel
theorem dX10_ofLine_19 : decode mX10_ofLine.2.1 19 = .ok (.iload_n 2, 1) := by decide +kernel
theorem dX10_ofLine_20 : decode mX10_ofLine.2.1 20 = .ok (.iconst 0, 1) := by decide +kernel
theorem dX10_ofLine_21 : decode mX10_ofLine.2.1 21 = .ok (.invokevirtual 178, 3) := by decide +kernel
theorem dX10_ofLine_24 : decode mX10_ofLine.2.1 24 = .ok (.istore 4, 2) := by decide +kernel
theorem dX10_ofLine_26 : decode mX10_ofLine.2.1 26 = .ok (.iload_n 3, 1) := by decide +kernel
theorem dX10_ofLine_27 : decode mX10_ofLine.2.1 27 = .ok (.iconst 2, 1) := by decide +kernel
theorem dX10_ofLine_28 : decode mX10_ofLine.2.1 28 = .ok (.if_icmp .ne 21, 3) := by decide +kernel
theorem dX10_ofLine_31 : decode mX10_ofLine.2.1 31 = .ok (.iload 4, 2) := by decide +kernel
theorem dX10_ofLine_33 : decode mX10_ofLine.2.1 33 = .ok (.ifCond .eq 28, 3) := by decide +kernel
theorem dX10_ofLine_36 : decode mX10_ofLine.2.1 36 = .ok (.iload 4, 2) := by decide +kernel
theorem dX10_ofLine_38 : decode mX10_ofLine.2.1 38 = .ok (.iconst 3, 1) := by decide +kernel
theorem dX10_ofLine_39 : decode mX10_ofLine.2.1 39 = .ok (.if_icmp .le 10, 3) := by decide +kernel
theorem dX10_ofLine_42 : decode mX10_ofLine.2.1 42 = .ok (.iload 4, 2) := by decide +kernel
theorem dX10_ofLine_44 : decode mX10_ofLine.2.1 44 = .ok (.bipush 7, 2) := by decide +kernel
theorem dX10_ofLine_46 : decode mX10_ofLine.2.1 46 = .ok (.if_icmp .lt 15, 3) := by decide +kernel
theorem dX10_ofLine_49 : decode mX10_ofLine.2.1 49 = .ok (.iload_n 3, 1) := by decide +kernel
theorem dX10_ofLine_50 : decode mX10_ofLine.2.1 50 = .ok (.iconst 3, 1) := by decide +kernel
theorem dX10_ofLine_51 : decode mX10_ofLine.2.1 51 = .ok (.if_icmp .ne 14, 3) := by decide +kernel
theorem dX10_ofLine_54 : decode mX10_ofLine.2.1 54 = .ok (.iload 4, 2) := by decide +kernel
theorem dX10_ofLine_56 : decode mX10_ofLine.2.1 56 = .ok (.bipush 7, 2) := by decide +kernel
theorem dX10_ofLine_58 : decode mX10_ofLine.2.1 58 = .ok (.if_icmp .eq 7, 3) := by decide +kernel
theorem dX10_ofLine_61 : decode mX10_ofLine.2.1 61 = .ok (.iconst 1, 1) := by decide +kernel
theorem dX10_ofLine_62 : decode mX10_ofLine.2.1 62 = .ok (.goto 4, 3) := by decide +kernel
theorem dX10_ofLine_65 : decode mX10_ofLine.2.1 65 = .ok (.iconst 0, 1) := by decide +kernel
theorem dX10_ofLine_66 : decode mX10_ofLine.2.1 66 = .ok (.istore 5, 2) := by decide +kernel
theorem dX10_ofLine_68 : decode mX10_ofLine.2.1 68 = .ok (.iload 5, 2) := by decide +kernel
theorem dX10_ofLine_70 : decode mX10_ofLine.2.1 70 = .ok (.ifCond .eq 7, 3) := by decide +kernel
theorem dX10_ofLine_73 : decode mX10_ofLine.2.1 73 = .ok (.iconst (-1), 1) := by decide +kernel
theorem dX10_ofLine_74 : decode mX10_ofLine.2.1 74 = .ok (.goto 10, 3) := by decide +kernel
theorem dX10_ofLine_77 : decode mX10_ofLine.2.1 77 = .ok (.aload_n 0, 1) := by decide +kernel
theorem dX10_ofLine_78 : decode mX10_ofLine.2.1 78 = .ok (.iload_n 1, 1) := by decide +kernel
theorem dX10_ofLine_79 : decode mX10_ofLine.2.1 79 = .ok (.iload_n 2, 1) := by decide +kernel
theorem dX10_ofLine_80 : decode mX10_ofLine.2.1 80 = .ok (.iload_n 3, 1) := by decide +kernel
theorem dX10_ofLine_81 : decode mX10_ofLine.2.1 81 = .ok (.invokevirtual 178, 3) := by decide +kernel
theorem dX10_ofLine_84 : decode mX10_ofLine.2.1 84 = .ok (.ireturn, 1) := by decide +kernel
theorem dX10_line_0 : decode mX10_line.2.1 0 = .ok (.aload_n 0, 1) := by decide +kernel
theorem dX10_line_1 : decode mX10_line.2.1 1 = .ok (.iload_n 1, 1) := by decide +kernel
theorem dX10_line_2 : decode mX10_line.2.1 2 = .ok (.iload_n 2, 1) := by decide +kernel
theorem dX10_line_3 : decode mX10_line.2.1 3 = .ok (.invokevirtual 171, 3) := by decide +kernel
theorem dX10_line_6 : decode mX10_line.2.1 6 = .ok (.ifCond .eq 12, 3) := by decide +kernel
theorem dX10_line_9 : decode mX10_line.2.1 9 = .ok (.iload_n 3, 1) := by decide +kernel
theorem dX10_line_10 : decode mX10_line.2.1 10 = .ok (.iconst 0, 1) := by decide +kernel
theorem dX10_line_11 : decode mX10_line.2.1 11 = .ok (.iconst 4, 1) := by decide +kernel
theorem dX10_line_12 : decode mX10_line.2.1 12 = .ok (.invokestatic 99, 3) := by decide +kernel
theorem dX10_line_15 : decode mX10_line.2.1 15 = .ok (.ifCond .ne 10, 3) := by decide +kernel
theorem dX10_line_18 : decode mX10_line.2.1 18 = .ok (.aload_n 0, 1) := by decide +kernel
theorem dX10_line_19 : decode mX10_line.2.1 19 = .ok (.bipush (-2), 2) := by decide +kernel
theorem dX10_line_21 : decode mX10_line.2.1 21 = .ok (.invokevirtual 156, 3) := by decide +kernel
theorem dX10_line_24 : decode mX10_line.2.1 24 = .ok (.ireturn, 1) := by decide +kernel
theorem dX10_line_25 : decode mX10_line.2.1 25 = .ok (.aload_n 0, 1) := by decide +kernel
theorem dX10_line_26 : decode mX10_line.2.1 26 = .ok (.invokevirtual 196, 3) := by decide +kernel
theorem dX10_line_29 : decode mX10_line.2.1 29 = .ok (.aload_n 0, 1) := by decide +kernel
theorem dX10_line_30 : decode mX10_line.2.1 30 = .ok (.iload_n 1, 1) := by decide +kernel
theorem dX10_line_31 : decode mX10_line.2.1 31 = .ok (.iload_n 2, 1) := by decide +kernel
theorem dX10_line_32 : decode mX10_line.2.1 32 = .ok (.iload_n 3, 1) := by decide +kernel
theorem dX10_line_33 : decode mX10_line.2.1 33 = .ok (.invokevirtual 221, 3) := by decide +kernel
theorem dX10_line_36 : decode mX10_line.2.1 36 = .ok (.ireturn, 1) := by decide +kernel
theorem dX10_ofSite_0 : decode mX10_ofSite.2.1 0 = .ok (.iload_n 2, 1) := by decide +kernel
theorem dX10_ofSite_1 : decode mX10_ofSite.2.1 1 = .ok (.ifCond .ne 12, 3) := by decide +kernel
theorem dX10_ofSite_4 : decode mX10_ofSite.2.1 4 = .ok (.aload_n 0, 1) := by decide +kernel
theorem dX10_ofSite_5 : decode mX10_ofSite.2.1 5 = .ok (.getfield 31, 3) := by decide +kernel
theorem dX10_ofSite_8 : decode mX10_ofSite.2.1 8 = .ok (.iload_n 1, 1) := by decide +kernel
theorem dX10_ofSite_9 : decode mX10_ofSite.2.1 9 = .ok (.iaload, 1) := by decide +kernel
theorem dX10_ofSite_10 : decode mX10_ofSite.2.1 10 = .ok (.goto 39, 3) := by decide +kernel
theorem dX10_ofSite_13 : decode mX10_ofSite.2.1 13 = .ok (.iload_n 2, 1) := by decide +kernel
theorem dX10_ofSite_14 : decode mX10_ofSite.2.1 14 = .ok (.iconst 1, 1) := by decide +kernel
theorem dX10_ofSite_15 : decode mX10_ofSite.2.1 15 = .ok (.if_icmp .ne 12, 3) := by decide +kernel
theorem dX10_ofSite_18 : decode mX10_ofSite.2.1 18 = .ok (.aload_n 0, 1) := by decide +kernel
theorem dX10_ofSite_19 : decode mX10_ofSite.2.1 19 = .ok (.getfield 34, 3) := by decide +kernel
theorem dX10_ofSite_22 : decode mX10_ofSite.2.1 22 = .ok (.iload_n 1, 1) := by decide +kernel
theorem dX10_ofSite_23 : decode mX10_ofSite.2.1 23 = .ok (.iaload, 1) := by decide +kernel
theorem dX10_ofSite_24 : decode mX10_ofSite.2.1 24 = .ok (.goto 25, 3) := by decide +kernel
theorem dX10_ofSite_27 : decode mX10_ofSite.2.1 27 = .ok (.iload_n 2, 1) := by decide +kernel
theorem dX10_ofSite_28 : decode mX10_ofSite.2.1 28 = .ok (.iconst 2, 1) := by decide +kernel
theorem dX10_ofSite_29 : decode mX10_ofSite.2.1 29 = .ok (.if_icmp .ne 11, 3) := by decide +kernel
theorem dX10_ofSite_32 : decode mX10_ofSite.2.1 32 = .ok (.aload_n 0, 1) := by decide +kernel
theorem dX10_ofSite_33 : decode mX10_ofSite.2.1 33 = .ok (.iload_n 1, 1) := by decide +kernel
theorem dX10_ofSite_34 : decode mX10_ofSite.2.1 34 = .ok (.invokevirtual 205, 3) := by decide +kernel
theorem dX10_ofSite_37 : decode mX10_ofSite.2.1 37 = .ok (.goto 12, 3) := by decide +kernel
theorem dX10_ofSite_40 : decode mX10_ofSite.2.1 40 = .ok (.aload_n 0, 1) := by decide +kernel
theorem dX10_ofSite_41 : decode mX10_ofSite.2.1 41 = .ok (.getfield 40, 3) := by decide +kernel
theorem dX10_ofSite_44 : decode mX10_ofSite.2.1 44 = .ok (.bipush 17, 2) := by decide +kernel
theorem dX10_ofSite_46 : decode mX10_ofSite.2.1 46 = .ok (.iload_n 1, 1) := by decide +kernel
theorem dX10_ofSite_47 : decode mX10_ofSite.2.1 47 = .ok (.iadd, 1) := by decide +kernel
theorem dX10_ofSite_48 : decode mX10_ofSite.2.1 48 = .ok (.iaload, 1) := by decide +kernel
theorem dX10_ofSite_49 : decode mX10_ofSite.2.1 49 = .ok (.ireturn, 1) := by decide +kernel
theorem dX10_site_0 : decode mX10_site.2.1 0 = .ok (.aload_n 0, 1) := by decide +kernel
theorem dX10_site_1 : decode mX10_site.2.1 1 = .ok (.invokevirtual 214, 3) := by decide +kernel
theorem dX10_site_4 : decode mX10_site.2.1 4 = .ok (.iload_n 1, 1) := by decide +kernel
theorem dX10_site_5 : decode mX10_site.2.1 5 = .ok (.iconst 0, 1) := by decide +kernel
theorem dX10_site_6 : decode mX10_site.2.1 6 = .ok (.aload_n 0, 1) := by decide +kernel
theorem dX10_site_7 : decode mX10_site.2.1 7 = .ok (.getfield 175, 3) := by decide +kernel
theorem dX10_site_10 : decode mX10_site.2.1 10 = .ok (.iconst 1, 1) := by decide +kernel
theorem dX10_site_11 : decode mX10_site.2.1 11 = .ok (.isub, 1) := by decide +kernel
theorem dX10_site_12 : decode mX10_site.2.1 12 = .ok (.invokestatic 99, 3) := by decide +kernel
theorem dX10_site_15 : decode mX10_site.2.1 15 = .ok (.ifCond .eq 21, 3) := by decide +kernel
theorem dX10_site_18 : decode mX10_site.2.1 18 = .ok (.iload_n 2, 1) := by decide +kernel
theorem dX10_site_19 : decode mX10_site.2.1 19 = .ok (.iconst 0, 1) := by decide +kernel
theorem dX10_site_20 : decode mX10_site.2.1 20 = .ok (.iconst 3, 1) := by decide +kernel
theorem dX10_site_21 : decode mX10_site.2.1 21 = .ok (.invokestatic 99, 3) := by decide +kernel
theorem dX10_site_24 : decode mX10_site.2.1 24 = .ok (.ifCond .eq 12, 3) := by decide +kernel
theorem dX10_site_27 : decode mX10_site.2.1 27 = .ok (.aload_n 0, 1) := by decide +kernel
theorem dX10_site_28 : decode mX10_site.2.1 28 = .ok (.iload_n 1, 1) := by decide +kernel
theorem dX10_site_29 : decode mX10_site.2.1 29 = .ok (.iload_n 2, 1) := by decide +kernel
theorem dX10_site_30 : decode mX10_site.2.1 30 = .ok (.invokevirtual 224, 3) := by decide +kernel
theorem dX10_site_33 : decode mX10_site.2.1 33 = .ok (.goto 9, 3) := by decide +kernel
theorem dX10_site_36 : decode mX10_site.2.1 36 = .ok (.aload_n 0, 1) := by decide +kernel
theorem dX10_site_37 : decode mX10_site.2.1 37 = .ok (.bipush (-2), 2) := by decide +kernel
theorem dX10_site_39 : decode mX10_site.2.1 39 = .ok (.invokevirtual 156, 3) := by decide +kernel
theorem dX10_site_42 : decode mX10_site.2.1 42 = .ok (.ireturn, 1) := by decide +kernel
theorem dX10_may_0 : decode mX10_may.2.1 0 = .ok (.aload_n 0, 1) := by decide +kernel
theorem dX10_may_1 : decode mX10_may.2.1 1 = .ok (.iload_n 1, 1) := by decide +kernel
theorem dX10_may_2 : decode mX10_may.2.1 2 = .ok (.invokevirtual 165, 3) := by decide +kernel
theorem dX10_may_5 : decode mX10_may.2.1 5 = .ok (.ifCond .eq 12, 3) := by decide +kernel
theorem dX10_may_8 : decode mX10_may.2.1 8 = .ok (.iload_n 2, 1) := by decide +kernel
theorem dX10_may_9 : decode mX10_may.2.1 9 = .ok (.iconst 0, 1) := by decide +kernel
theorem dX10_may_10 : decode mX10_may.2.1 10 = .ok (.iconst 3, 1) := by decide +kernel
theorem dX10_may_11 : decode mX10_may.2.1 11 = .ok (.invokestatic 99, 3) := by decide +kernel
theorem dX10_may_14 : decode mX10_may.2.1 14 = .ok (.ifCond .ne 10, 3) := by decide +kernel
theorem dX10_may_17 : decode mX10_may.2.1 17 = .ok (.aload_n 0, 1) := by decide +kernel
theorem dX10_may_18 : decode mX10_may.2.1 18 = .ok (.bipush (-2), 2) := by decide +kernel
theorem dX10_may_20 : decode mX10_may.2.1 20 = .ok (.invokevirtual 156, 3) := by decide +kernel
theorem dX10_may_23 : decode mX10_may.2.1 23 = .ok (.ireturn, 1) := by decide +kernel
theorem dX10_may_24 : decode mX10_may.2.1 24 = .ok (.aload_n 0, 1) := by decide +kernel
theorem dX10_may_25 : decode mX10_may.2.1 25 = .ok (.invokevirtual 214, 3) := by decide +kernel
theorem dX10_may_28 : decode mX10_may.2.1 28 = .ok (.aload_n 0, 1) := by decide +kernel
theorem dX10_may_29 : decode mX10_may.2.1 29 = .ok (.getfield 40, 3) := by decide +kernel
theorem dX10_may_32 : decode mX10_may.2.1 32 = .ok (.iconst 4, 1) := by decide +kernel
theorem dX10_may_33 : decode mX10_may.2.1 33 = .ok (.iload_n 1, 1) := by decide +kernel
theorem dX10_may_34 : decode mX10_may.2.1 34 = .ok (.imul, 1) := by decide +kernel
theorem dX10_may_35 : decode mX10_may.2.1 35 = .ok (.iload_n 2, 1) := by decide +kernel
theorem dX10_may_36 : decode mX10_may.2.1 36 = .ok (.iadd, 1) := by decide +kernel
theorem dX10_may_37 : decode mX10_may.2.1 37 = .ok (.iaload, 1) := by decide +kernel
theorem dX10_may_38 : decode mX10_may.2.1 38 = .ok (.ireturn, 1) := by decide +kernel
theorem dX10_open_0 : decode mX10_open.2.1 0 = .ok (.aload_n 0, 1) := by decide +kernel
theorem dX10_open_1 : decode mX10_open.2.1 1 = .ok (.invokevirtual 214, 3) := by decide +kernel
theorem dX10_open_4 : decode mX10_open.2.1 4 = .ok (.aload_n 0, 1) := by decide +kernel
theorem dX10_open_5 : decode mX10_open.2.1 5 = .ok (.getfield 40, 3) := by decide +kernel
theorem dX10_open_8 : decode mX10_open.2.1 8 = .ok (.bipush 16, 2) := by decide +kernel
theorem dX10_open_10 : decode mX10_open.2.1 10 = .ok (.iaload, 1) := by decide +kernel
theorem dX10_open_11 : decode mX10_open.2.1 11 = .ok (.ireturn, 1) := by decide +kernel
theorem dX10_reached_0 : decode mX10_reached.2.1 0 = .ok (.aload_n 0, 1) := by decide +kernel
theorem dX10_reached_1 : decode mX10_reached.2.1 1 = .ok (.iload_n 1, 1) := by decide +kernel
theorem dX10_reached_2 : decode mX10_reached.2.1 2 = .ok (.invokevirtual 165, 3) := by decide +kernel
theorem dX10_reached_5 : decode mX10_reached.2.1 5 = .ok (.ifCond .eq 12, 3) := by decide +kernel
theorem dX10_reached_8 : decode mX10_reached.2.1 8 = .ok (.iload_n 2, 1) := by decide +kernel
theorem dX10_reached_9 : decode mX10_reached.2.1 9 = .ok (.iconst 0, 1) := by decide +kernel
theorem dX10_reached_10 : decode mX10_reached.2.1 10 = .ok (.iconst 3, 1) := by decide +kernel
theorem dX10_reached_11 : decode mX10_reached.2.1 11 = .ok (.invokestatic 99, 3) := by decide +kernel
theorem dX10_reached_14 : decode mX10_reached.2.1 14 = .ok (.ifCond .ne 10, 3) := by decide +kernel
theorem dX10_reached_17 : decode mX10_reached.2.1 17 = .ok (.aload_n 0, 1) := by decide +kernel
theorem dX10_reached_18 : decode mX10_reached.2.1 18 = .ok (.bipush (-2), 2) := by decide +kernel
theorem dX10_reached_20 : decode mX10_reached.2.1 20 = .ok (.invokevirtual 156, 3) := by decide +kernel
theorem dX10_reached_23 : decode mX10_reached.2.1 23 = .ok (.ireturn, 1) := by decide +kernel
theorem dX10_reached_24 : decode mX10_reached.2.1 24 = .ok (.aload_n 0, 1) := by decide +kernel
theorem dX10_reached_25 : decode mX10_reached.2.1 25 = .ok (.invokevirtual 214, 3) := by decide +kernel
theorem dX10_reached_28 : decode mX10_reached.2.1 28 = .ok (.aload_n 0, 1) := by decide +kernel
theorem dX10_reached_29 : decode mX10_reached.2.1 29 = .ok (.aload_n 0, 1) := by decide +kernel
theorem dX10_reached_30 : decode mX10_reached.2.1 30 = .ok (.getfield 40, 3) := by decide +kernel
theorem dX10_reached_33 : decode mX10_reached.2.1 33 = .ok (.iconst 4, 1) := by decide +kernel
theorem dX10_reached_34 : decode mX10_reached.2.1 34 = .ok (.iload_n 1, 1) := by decide +kernel
theorem dX10_reached_35 : decode mX10_reached.2.1 35 = .ok (.imul, 1) := by decide +kernel
theorem dX10_reached_36 : decode mX10_reached.2.1 36 = .ok (.iload_n 2, 1) := by decide +kernel
theorem dX10_reached_37 : decode mX10_reached.2.1 37 = .ok (.iadd, 1) := by decide +kernel
theorem dX10_reached_38 : decode mX10_reached.2.1 38 = .ok (.iaload, 1) := by decide +kernel
theorem dX10_reached_39 : decode mX10_reached.2.1 39 = .ok (.invokevirtual 202, 3) := by decide +kernel
theorem dX10_reached_42 : decode mX10_reached.2.1 42 = .ok (.ireturn, 1) := by decide +kernel
theorem dX10_fates_0 : decode mX10_fates.2.1 0 = .ok (.iload_n 1, 1) := by decide +kernel
theorem dX10_fates_1 : decode mX10_fates.2.1 1 = .ok (.iconst 0, 1) := by decide +kernel
theorem dX10_fates_2 : decode mX10_fates.2.1 2 = .ok (.iconst 2, 1) := by decide +kernel
theorem dX10_fates_3 : decode mX10_fates.2.1 3 = .ok (.invokestatic 99, 3) := by decide +kernel
theorem dX10_fates_6 : decode mX10_fates.2.1 6 = .ok (.ifCond .ne 10, 3) := by decide +kernel
theorem dX10_fates_9 : decode mX10_fates.2.1 9 = .ok (.aload_n 0, 1) := by decide +kernel
theorem dX10_fates_10 : decode mX10_fates.2.1 10 = .ok (.bipush (-2), 2) := by decide +kernel
theorem dX10_fates_12 : decode mX10_fates.2.1 12 = .ok (.invokevirtual 156, 3) := by decide +kernel
theorem dX10_fates_15 : decode mX10_fates.2.1 15 = .ok (.ireturn, 1) := by decide +kernel
theorem dX10_fates_16 : decode mX10_fates.2.1 16 = .ok (.aload_n 0, 1) := by decide +kernel
theorem dX10_fates_17 : decode mX10_fates.2.1 17 = .ok (.invokevirtual 214, 3) := by decide +kernel
theorem dX10_fates_20 : decode mX10_fates.2.1 20 = .ok (.aload_n 0, 1) := by decide +kernel
theorem dX10_fates_21 : decode mX10_fates.2.1 21 = .ok (.iload_n 1, 1) := by decide +kernel
theorem dX10_fates_22 : decode mX10_fates.2.1 22 = .ok (.invokevirtual 208, 3) := by decide +kernel
theorem dX10_fates_25 : decode mX10_fates.2.1 25 = .ok (.invokestatic 227, 3) := by decide +kernel
theorem dX10_fates_28 : decode mX10_fates.2.1 28 = .ok (.ireturn, 1) := by decide +kernel
theorem dX10_call_0 : decode mX10_call.2.1 0 = .ok (.iconst 0, 1) := by decide +kernel
theorem dX10_call_1 : decode mX10_call.2.1 1 = .ok (.istore_n 3, 1) := by decide +kernel
theorem dX10_call_2 : decode mX10_call.2.1 2 = .ok (.iload_n 3, 1) := by decide +kernel
theorem dX10_call_3 : decode mX10_call.2.1 3 = .ok (.iconst 4, 1) := by decide +kernel
theorem dX10_call_4 : decode mX10_call.2.1 4 = .ok (.if_icmp .ge 31, 3) := by decide +kernel
theorem dX10_call_7 : decode mX10_call.2.1 7 = .ok (.aload_n 0, 1) := by decide +kernel
theorem dX10_call_8 : decode mX10_call.2.1 8 = .ok (.getfield 55, 3) := by decide +kernel
theorem dX10_call_11 : decode mX10_call.2.1 11 = .ok (.iconst 4, 1) := by decide +kernel
theorem dX10_call_12 : decode mX10_call.2.1 12 = .ok (.aload_n 0, 1) := by decide +kernel
theorem dX10_call_13 : decode mX10_call.2.1 13 = .ok (.getfield 230, 3) := by decide +kernel
theorem dX10_call_16 : decode mX10_call.2.1 16 = .ok (.imul, 1) := by decide +kernel
theorem dX10_call_17 : decode mX10_call.2.1 17 = .ok (.iload_n 3, 1) := by decide +kernel
theorem dX10_call_18 : decode mX10_call.2.1 18 = .ok (.iadd, 1) := by decide +kernel
theorem dX10_call_19 : decode mX10_call.2.1 19 = .ok (.iload_n 3, 1) := by decide +kernel
theorem dX10_call_20 : decode mX10_call.2.1 20 = .ok (.ifCond .ne 7, 3) := by decide +kernel
theorem dX10_call_23 : decode mX10_call.2.1 23 = .ok (.iload_n 2, 1) := by decide +kernel
theorem dX10_call_24 : decode mX10_call.2.1 24 = .ok (.goto 4, 3) := by decide +kernel
theorem dX10_call_27 : decode mX10_call.2.1 27 = .ok (.iconst (-1), 1) := by decide +kernel
theorem dX10_call_28 : decode mX10_call.2.1 28 = .ok (.iastore, 1) := by decide +kernel
theorem dX10_call_29 : decode mX10_call.2.1 29 = .ok (.iinc 3 1, 3) := by decide +kernel
theorem dX10_call_32 : decode mX10_call.2.1 32 = .ok (.goto (-30), 3) := by decide +kernel
theorem dX10_call_35 : decode mX10_call.2.1 35 = .ok (.aload_n 0, 1) := by decide +kernel
theorem dX10_call_36 : decode mX10_call.2.1 36 = .ok (.getfield 58, 3) := by decide +kernel
theorem dX10_call_39 : decode mX10_call.2.1 39 = .ok (.aload_n 0, 1) := by decide +kernel
theorem dX10_call_40 : decode mX10_call.2.1 40 = .ok (.getfield 230, 3) := by decide +kernel
theorem dX10_call_43 : decode mX10_call.2.1 43 = .ok (.iload_n 1, 1) := by decide +kernel
theorem dX10_call_44 : decode mX10_call.2.1 44 = .ok (.iastore, 1) := by decide +kernel
theorem dX10_call_45 : decode mX10_call.2.1 45 = .ok (.aload_n 0, 1) := by decide +kernel
theorem dX10_call_46 : decode mX10_call.2.1 46 = .ok (.getfield 61, 3) := by decide +kernel
theorem dX10_call_49 : decode mX10_call.2.1 49 = .ok (.aload_n 0, 1) := by decide +kernel
theorem dX10_call_50 : decode mX10_call.2.1 50 = .ok (.getfield 230, 3) := by decide +kernel
theorem dX10_call_53 : decode mX10_call.2.1 53 = .ok (.iconst 0, 1) := by decide +kernel
theorem dX10_call_54 : decode mX10_call.2.1 54 = .ok (.iastore, 1) := by decide +kernel
theorem dX10_call_55 : decode mX10_call.2.1 55 = .ok (.aload_n 0, 1) := by decide +kernel
theorem dX10_call_56 : decode mX10_call.2.1 56 = .ok (.getfield 64, 3) := by decide +kernel
theorem dX10_call_59 : decode mX10_call.2.1 59 = .ok (.aload_n 0, 1) := by decide +kernel
theorem dX10_call_60 : decode mX10_call.2.1 60 = .ok (.getfield 230, 3) := by decide +kernel
theorem dX10_call_63 : decode mX10_call.2.1 63 = .ok (.aload_n 0, 1) := by decide +kernel
theorem dX10_call_64 : decode mX10_call.2.1 64 = .ok (.getfield 233, 3) := by decide +kernel
theorem dX10_call_67 : decode mX10_call.2.1 67 = .ok (.iastore, 1) := by decide +kernel
theorem dX10_call_68 : decode mX10_call.2.1 68 = .ok (.aload_n 0, 1) := by decide +kernel
theorem dX10_call_69 : decode mX10_call.2.1 69 = .ok (.getfield 67, 3) := by decide +kernel
theorem dX10_call_72 : decode mX10_call.2.1 72 = .ok (.aload_n 0, 1) := by decide +kernel
theorem dX10_call_73 : decode mX10_call.2.1 73 = .ok (.getfield 230, 3) := by decide +kernel
theorem dX10_call_76 : decode mX10_call.2.1 76 = .ok (.iload_n 2, 1) := by decide +kernel
theorem dX10_call_77 : decode mX10_call.2.1 77 = .ok (.iastore, 1) := by decide +kernel
theorem dX10_call_78 : decode mX10_call.2.1 78 = .ok (.aload_n 0, 1) := by decide +kernel
theorem dX10_call_79 : decode mX10_call.2.1 79 = .ok (.getfield 70, 3) := by decide +kernel
theorem dX10_call_82 : decode mX10_call.2.1 82 = .ok (.aload_n 0, 1) := by decide +kernel
theorem dX10_call_83 : decode mX10_call.2.1 83 = .ok (.getfield 230, 3) := by decide +kernel
theorem dX10_call_86 : decode mX10_call.2.1 86 = .ok (.aload_n 0, 1) := by decide +kernel
theorem dX10_call_87 : decode mX10_call.2.1 87 = .ok (.getfield 236, 3) := by decide +kernel
theorem dX10_call_90 : decode mX10_call.2.1 90 = .ok (.iastore, 1) := by decide +kernel
theorem dX10_call_91 : decode mX10_call.2.1 91 = .ok (.aload_n 0, 1) := by decide +kernel
theorem dX10_call_92 : decode mX10_call.2.1 92 = .ok (.dup, 1) := by decide +kernel
theorem dX10_call_93 : decode mX10_call.2.1 93 = .ok (.getfield 233, 3) := by decide +kernel
theorem dX10_call_96 : decode mX10_call.2.1 96 = .ok (.iconst 1, 1) := by decide +kernel
theorem dX10_call_97 : decode mX10_call.2.1 97 = .ok (.iadd, 1) := by decide +kernel
theorem dX10_call_98 : decode mX10_call.2.1 98 = .ok (.putfield 233, 3) := by decide +kernel
theorem dX10_call_101 : decode mX10_call.2.1 101 = .ok (.aload_n 0, 1) := by decide +kernel
theorem dX10_call_102 : decode mX10_call.2.1 102 = .ok (.dup, 1) := by decide +kernel
theorem dX10_call_103 : decode mX10_call.2.1 103 = .ok (.getfield 230, 3) := by decide +kernel
theorem dX10_call_106 : decode mX10_call.2.1 106 = .ok (.iconst 1, 1) := by decide +kernel
theorem dX10_call_107 : decode mX10_call.2.1 107 = .ok (.iadd, 1) := by decide +kernel
theorem dX10_call_108 : decode mX10_call.2.1 108 = .ok (.putfield 230, 3) := by decide +kernel
theorem dX10_call_111 : decode mX10_call.2.1 111 = .ok (.return_, 1) := by decide +kernel
theorem dX10_follow_0 : decode mX10_follow.2.1 0 = .ok (.iload_n 1, 1) := by decide +kernel
theorem dX10_follow_1 : decode mX10_follow.2.1 1 = .ok (.istore_n 3, 1) := by decide +kernel
theorem dX10_follow_2 : decode mX10_follow.2.1 2 = .ok (.iload_n 3, 1) := by decide +kernel
theorem dX10_follow_3 : decode mX10_follow.2.1 3 = .ok (.iconst (-1), 1) := by decide +kernel
theorem dX10_follow_4 : decode mX10_follow.2.1 4 = .ok (.if_icmp .eq 30, 3) := by decide +kernel
theorem dX10_follow_7 : decode mX10_follow.2.1 7 = .ok (.aload_n 0, 1) := by decide +kernel
theorem dX10_follow_8 : decode mX10_follow.2.1 8 = .ok (.getfield 52, 3) := by decide +kernel
theorem dX10_follow_11 : decode mX10_follow.2.1 11 = .ok (.iload_n 3, 1) := by decide +kernel
theorem dX10_follow_12 : decode mX10_follow.2.1 12 = .ok (.iaload, 1) := by decide +kernel
theorem dX10_follow_13 : decode mX10_follow.2.1 13 = .ok (.iload_n 2, 1) := by decide +kernel
theorem dX10_follow_14 : decode mX10_follow.2.1 14 = .ok (.if_icmp .eq 20, 3) := by decide +kernel
theorem dX10_follow_17 : decode mX10_follow.2.1 17 = .ok (.aload_n 0, 1) := by decide +kernel
theorem dX10_follow_18 : decode mX10_follow.2.1 18 = .ok (.getfield 52, 3) := by decide +kernel
theorem dX10_follow_21 : decode mX10_follow.2.1 21 = .ok (.iload_n 3, 1) := by decide +kernel
theorem dX10_follow_22 : decode mX10_follow.2.1 22 = .ok (.iload_n 2, 1) := by decide +kernel
theorem dX10_follow_23 : decode mX10_follow.2.1 23 = .ok (.iastore, 1) := by decide +kernel
theorem dX10_follow_24 : decode mX10_follow.2.1 24 = .ok (.aload_n 0, 1) := by decide +kernel
theorem dX10_follow_25 : decode mX10_follow.2.1 25 = .ok (.getfield 46, 3) := by decide +kernel
theorem dX10_follow_28 : decode mX10_follow.2.1 28 = .ok (.iload_n 3, 1) := by decide +kernel
theorem dX10_follow_29 : decode mX10_follow.2.1 29 = .ok (.iaload, 1) := by decide +kernel
theorem dX10_follow_30 : decode mX10_follow.2.1 30 = .ok (.istore_n 3, 1) := by decide +kernel
theorem dX10_follow_31 : decode mX10_follow.2.1 31 = .ok (.goto (-29), 3) := by decide +kernel
theorem dX10_follow_34 : decode mX10_follow.2.1 34 = .ok (.return_, 1) := by decide +kernel
theorem dX10_end_0 : decode mX10_end.2.1 0 = .ok (.aload_n 0, 1) := by decide +kernel
theorem dX10_end_1 : decode mX10_end.2.1 1 = .ok (.dup, 1) := by decide +kernel
theorem dX10_end_2 : decode mX10_end.2.1 2 = .ok (.getfield 230, 3) := by decide +kernel
theorem dX10_end_5 : decode mX10_end.2.1 5 = .ok (.iconst 1, 1) := by decide +kernel
theorem dX10_end_6 : decode mX10_end.2.1 6 = .ok (.isub, 1) := by decide +kernel
theorem dX10_end_7 : decode mX10_end.2.1 7 = .ok (.putfield 230, 3) := by decide +kernel
theorem dX10_end_10 : decode mX10_end.2.1 10 = .ok (.aload_n 0, 1) := by decide +kernel
theorem dX10_end_11 : decode mX10_end.2.1 11 = .ok (.getfield 64, 3) := by decide +kernel
theorem dX10_end_14 : decode mX10_end.2.1 14 = .ok (.aload_n 0, 1) := by decide +kernel
theorem dX10_end_15 : decode mX10_end.2.1 15 = .ok (.getfield 230, 3) := by decide +kernel
theorem dX10_end_18 : decode mX10_end.2.1 18 = .ok (.iaload, 1) := by decide +kernel
theorem dX10_end_19 : decode mX10_end.2.1 19 = .ok (.istore_n 1, 1) := by decide +kernel
theorem dX10_end_20 : decode mX10_end.2.1 20 = .ok (.aload_n 0, 1) := by decide +kernel
theorem dX10_end_21 : decode mX10_end.2.1 21 = .ok (.getfield 55, 3) := by decide +kernel
theorem dX10_end_24 : decode mX10_end.2.1 24 = .ok (.iconst 4, 1) := by decide +kernel
theorem dX10_end_25 : decode mX10_end.2.1 25 = .ok (.aload_n 0, 1) := by decide +kernel
theorem dX10_end_26 : decode mX10_end.2.1 26 = .ok (.getfield 230, 3) := by decide +kernel
theorem dX10_end_29 : decode mX10_end.2.1 29 = .ok (.imul, 1) := by decide +kernel
theorem dX10_end_30 : decode mX10_end.2.1 30 = .ok (.iconst 3, 1) := by decide +kernel
theorem dX10_end_31 : decode mX10_end.2.1 31 = .ok (.iadd, 1) := by decide +kernel
theorem dX10_end_32 : decode mX10_end.2.1 32 = .ok (.iaload, 1) := by decide +kernel
theorem dX10_end_33 : decode mX10_end.2.1 33 = .ok (.istore_n 2, 1) := by decide +kernel
theorem dX10_end_34 : decode mX10_end.2.1 34 = .ok (.aload_n 0, 1) := by decide +kernel
theorem dX10_end_35 : decode mX10_end.2.1 35 = .ok (.aload_n 0, 1) := by decide +kernel
theorem dX10_end_36 : decode mX10_end.2.1 36 = .ok (.getfield 239, 3) := by decide +kernel
theorem dX10_end_39 : decode mX10_end.2.1 39 = .ok (.iload_n 1, 1) := by decide +kernel
theorem dX10_end_40 : decode mX10_end.2.1 40 = .ok (.invokevirtual 242, 3) := by decide +kernel
theorem dX10_end_43 : decode mX10_end.2.1 43 = .ok (.aload_n 0, 1) := by decide +kernel
theorem dX10_end_44 : decode mX10_end.2.1 44 = .ok (.aload_n 0, 1) := by decide +kernel
theorem dX10_end_45 : decode mX10_end.2.1 45 = .ok (.getfield 67, 3) := by decide +kernel
theorem dX10_end_48 : decode mX10_end.2.1 48 = .ok (.aload_n 0, 1) := by decide +kernel
theorem dX10_end_49 : decode mX10_end.2.1 49 = .ok (.getfield 230, 3) := by decide +kernel
theorem dX10_end_52 : decode mX10_end.2.1 52 = .ok (.iaload, 1) := by decide +kernel
theorem dX10_end_53 : decode mX10_end.2.1 53 = .ok (.iload_n 1, 1) := by decide +kernel
theorem dX10_end_54 : decode mX10_end.2.1 54 = .ok (.invokevirtual 242, 3) := by decide +kernel
theorem dX10_end_57 : decode mX10_end.2.1 57 = .ok (.aload_n 0, 1) := by decide +kernel
theorem dX10_end_58 : decode mX10_end.2.1 58 = .ok (.iload_n 2, 1) := by decide +kernel
theorem dX10_end_59 : decode mX10_end.2.1 59 = .ok (.iload_n 1, 1) := by decide +kernel
theorem dX10_end_60 : decode mX10_end.2.1 60 = .ok (.invokevirtual 242, 3) := by decide +kernel
theorem dX10_end_63 : decode mX10_end.2.1 63 = .ok (.aload_n 0, 1) := by decide +kernel
theorem dX10_end_64 : decode mX10_end.2.1 64 = .ok (.getfield 70, 3) := by decide +kernel
theorem dX10_end_67 : decode mX10_end.2.1 67 = .ok (.aload_n 0, 1) := by decide +kernel
theorem dX10_end_68 : decode mX10_end.2.1 68 = .ok (.getfield 230, 3) := by decide +kernel
theorem dX10_end_71 : decode mX10_end.2.1 71 = .ok (.iaload, 1) := by decide +kernel
theorem dX10_end_72 : decode mX10_end.2.1 72 = .ok (.istore_n 3, 1) := by decide +kernel
theorem dX10_end_73 : decode mX10_end.2.1 73 = .ok (.iload_n 3, 1) := by decide +kernel
theorem dX10_end_74 : decode mX10_end.2.1 74 = .ok (.aload_n 0, 1) := by decide +kernel
theorem dX10_end_75 : decode mX10_end.2.1 75 = .ok (.getfield 236, 3) := by decide +kernel
theorem dX10_end_78 : decode mX10_end.2.1 78 = .ok (.if_icmp .ge 54, 3) := by decide +kernel
theorem dX10_end_81 : decode mX10_end.2.1 81 = .ok (.aload_n 0, 1) := by decide +kernel
theorem dX10_end_82 : decode mX10_end.2.1 82 = .ok (.getfield 49, 3) := by decide +kernel
theorem dX10_end_85 : decode mX10_end.2.1 85 = .ok (.iload_n 3, 1) := by decide +kernel
theorem dX10_end_86 : decode mX10_end.2.1 86 = .ok (.iaload, 1) := by decide +kernel
theorem dX10_end_87 : decode mX10_end.2.1 87 = .ok (.iload_n 1, 1) := by decide +kernel
theorem dX10_end_88 : decode mX10_end.2.1 88 = .ok (.if_icmp .ne 38, 3) := by decide +kernel
theorem dX10_end_91 : decode mX10_end.2.1 91 = .ok (.aload_n 0, 1) := by decide +kernel
theorem dX10_end_92 : decode mX10_end.2.1 92 = .ok (.getfield 52, 3) := by decide +kernel
theorem dX10_end_95 : decode mX10_end.2.1 95 = .ok (.iload_n 3, 1) := by decide +kernel
theorem dX10_end_96 : decode mX10_end.2.1 96 = .ok (.iaload, 1) := by decide +kernel
theorem dX10_end_97 : decode mX10_end.2.1 97 = .ok (.iload_n 1, 1) := by decide +kernel
theorem dX10_end_98 : decode mX10_end.2.1 98 = .ok (.if_icmp .ne 28, 3) := by decide +kernel
theorem dX10_end_101 : decode mX10_end.2.1 101 = .ok (.aload_n 0, 1) := by decide +kernel
theorem dX10_end_102 : decode mX10_end.2.1 102 = .ok (.dup, 1) := by decide +kernel
theorem dX10_end_103 : decode mX10_end.2.1 103 = .ok (.getfield 245, 3) := by decide +kernel
theorem dX10_end_106 : decode mX10_end.2.1 106 = .ok (.iconst 1, 1) := by decide +kernel
theorem dX10_end_107 : decode mX10_end.2.1 107 = .ok (.iadd, 1) := by decide +kernel
theorem dX10_end_108 : decode mX10_end.2.1 108 = .ok (.putfield 245, 3) := by decide +kernel
theorem dX10_end_111 : decode mX10_end.2.1 111 = .ok (.aload_n 0, 1) := by decide +kernel
theorem dX10_end_112 : decode mX10_end.2.1 112 = .ok (.getfield 79, 3) := by decide +kernel
theorem dX10_end_115 : decode mX10_end.2.1 115 = .ok (.aload_n 0, 1) := by decide +kernel
theorem dX10_end_116 : decode mX10_end.2.1 116 = .ok (.getfield 43, 3) := by decide +kernel
theorem dX10_end_119 : decode mX10_end.2.1 119 = .ok (.iload_n 3, 1) := by decide +kernel
theorem dX10_end_120 : decode mX10_end.2.1 120 = .ok (.iaload, 1) := by decide +kernel
theorem dX10_end_121 : decode mX10_end.2.1 121 = .ok (.dup2, 1) := by decide +kernel
theorem dX10_end_122 : decode mX10_end.2.1 122 = .ok (.iaload, 1) := by decide +kernel
theorem dX10_end_123 : decode mX10_end.2.1 123 = .ok (.iconst 1, 1) := by decide +kernel
theorem dX10_end_124 : decode mX10_end.2.1 124 = .ok (.iadd, 1) := by decide +kernel
theorem dX10_end_125 : decode mX10_end.2.1 125 = .ok (.iastore, 1) := by decide +kernel
theorem dX10_end_126 : decode mX10_end.2.1 126 = .ok (.iinc 3 1, 3) := by decide +kernel
theorem dX10_end_129 : decode mX10_end.2.1 129 = .ok (.goto (-56), 3) := by decide +kernel
theorem dX10_end_132 : decode mX10_end.2.1 132 = .ok (.aload_n 0, 1) := by decide +kernel
theorem dX10_end_133 : decode mX10_end.2.1 133 = .ok (.getfield 230, 3) := by decide +kernel
theorem dX10_end_136 : decode mX10_end.2.1 136 = .ok (.ifCond .le 53, 3) := by decide +kernel
theorem dX10_end_139 : decode mX10_end.2.1 139 = .ok (.aload_n 0, 1) := by decide +kernel
theorem dX10_end_140 : decode mX10_end.2.1 140 = .ok (.getfield 58, 3) := by decide +kernel
theorem dX10_end_143 : decode mX10_end.2.1 143 = .ok (.aload_n 0, 1) := by decide +kernel
theorem dX10_end_144 : decode mX10_end.2.1 144 = .ok (.getfield 230, 3) := by decide +kernel
theorem dX10_end_147 : decode mX10_end.2.1 147 = .ok (.iconst 1, 1) := by decide +kernel
theorem dX10_end_148 : decode mX10_end.2.1 148 = .ok (.isub, 1) := by decide +kernel
theorem dX10_end_149 : decode mX10_end.2.1 149 = .ok (.iaload, 1) := by decide +kernel
theorem dX10_end_150 : decode mX10_end.2.1 150 = .ok (.istore_n 3, 1) := by decide +kernel
theorem dX10_end_151 : decode mX10_end.2.1 151 = .ok (.aload_n 0, 1) := by decide +kernel
theorem dX10_end_152 : decode mX10_end.2.1 152 = .ok (.getfield 61, 3) := by decide +kernel
theorem dX10_end_155 : decode mX10_end.2.1 155 = .ok (.aload_n 0, 1) := by decide +kernel
theorem dX10_end_156 : decode mX10_end.2.1 156 = .ok (.getfield 230, 3) := by decide +kernel
theorem dX10_end_159 : decode mX10_end.2.1 159 = .ok (.iconst 1, 1) := by decide +kernel
theorem dX10_end_160 : decode mX10_end.2.1 160 = .ok (.isub, 1) := by decide +kernel
theorem dX10_end_161 : decode mX10_end.2.1 161 = .ok (.iaload, 1) := by decide +kernel
theorem dX10_end_162 : decode mX10_end.2.1 162 = .ok (.iconst 1, 1) := by decide +kernel
theorem dX10_end_163 : decode mX10_end.2.1 163 = .ok (.isub, 1) := by decide +kernel
theorem dX10_end_164 : decode mX10_end.2.1 164 = .ok (.istore 4, 2) := by decide +kernel
theorem dX10_end_166 : decode mX10_end.2.1 166 = .ok (.aload_n 0, 1) := by decide +kernel
theorem dX10_end_167 : decode mX10_end.2.1 167 = .ok (.getfield 55, 3) := by decide +kernel
theorem dX10_end_170 : decode mX10_end.2.1 170 = .ok (.iconst 4, 1) := by decide +kernel
theorem dX10_end_171 : decode mX10_end.2.1 171 = .ok (.aload_n 0, 1) := by decide +kernel
theorem dX10_end_172 : decode mX10_end.2.1 172 = .ok (.getfield 230, 3) := by decide +kernel
theorem dX10_end_175 : decode mX10_end.2.1 175 = .ok (.imul, 1) := by decide +kernel
theorem dX10_end_176 : decode mX10_end.2.1 176 = .ok (.iconst 4, 1) := by decide +kernel
theorem dX10_end_177 : decode mX10_end.2.1 177 = .ok (.isub, 1) := by decide +kernel
theorem dX10_end_178 : decode mX10_end.2.1 178 = .ok (.aload_n 0, 1) := by decide +kernel
theorem dX10_end_179 : decode mX10_end.2.1 179 = .ok (.iload_n 3, 1) := by decide +kernel
theorem dX10_end_180 : decode mX10_end.2.1 180 = .ok (.iload 4, 2) := by decide +kernel
theorem dX10_end_182 : decode mX10_end.2.1 182 = .ok (.iconst 1, 1) := by decide +kernel
theorem dX10_end_183 : decode mX10_end.2.1 183 = .ok (.invokevirtual 178, 3) := by decide +kernel
theorem dX10_end_186 : decode mX10_end.2.1 186 = .ok (.iadd, 1) := by decide +kernel
theorem dX10_end_187 : decode mX10_end.2.1 187 = .ok (.iload_n 2, 1) := by decide +kernel
theorem dX10_end_188 : decode mX10_end.2.1 188 = .ok (.iastore, 1) := by decide +kernel
theorem dX10_end_189 : decode mX10_end.2.1 189 = .ok (.return_, 1) := by decide +kernel
theorem dX10_make_0 : decode mX10_make.2.1 0 = .ok (.aload_n 0, 1) := by decide +kernel
theorem dX10_make_1 : decode mX10_make.2.1 1 = .ok (.getfield 43, 3) := by decide +kernel
theorem dX10_make_4 : decode mX10_make.2.1 4 = .ok (.aload_n 0, 1) := by decide +kernel
theorem dX10_make_5 : decode mX10_make.2.1 5 = .ok (.getfield 236, 3) := by decide +kernel
theorem dX10_make_8 : decode mX10_make.2.1 8 = .ok (.iload_n 1, 1) := by decide +kernel
theorem dX10_make_9 : decode mX10_make.2.1 9 = .ok (.iastore, 1) := by decide +kernel
theorem dX10_make_10 : decode mX10_make.2.1 10 = .ok (.aload_n 0, 1) := by decide +kernel
theorem dX10_make_11 : decode mX10_make.2.1 11 = .ok (.getfield 46, 3) := by decide +kernel
theorem dX10_make_14 : decode mX10_make.2.1 14 = .ok (.aload_n 0, 1) := by decide +kernel
theorem dX10_make_15 : decode mX10_make.2.1 15 = .ok (.getfield 236, 3) := by decide +kernel
theorem dX10_make_18 : decode mX10_make.2.1 18 = .ok (.iconst (-1), 1) := by decide +kernel
theorem dX10_make_19 : decode mX10_make.2.1 19 = .ok (.iastore, 1) := by decide +kernel
theorem dX10_make_20 : decode mX10_make.2.1 20 = .ok (.aload_n 0, 1) := by decide +kernel
theorem dX10_make_21 : decode mX10_make.2.1 21 = .ok (.getfield 49, 3) := by decide +kernel
theorem dX10_make_24 : decode mX10_make.2.1 24 = .ok (.aload_n 0, 1) := by decide +kernel
theorem dX10_make_25 : decode mX10_make.2.1 25 = .ok (.getfield 236, 3) := by decide +kernel
theorem dX10_make_28 : decode mX10_make.2.1 28 = .ok (.aload_n 0, 1) := by decide +kernel
theorem dX10_make_29 : decode mX10_make.2.1 29 = .ok (.getfield 64, 3) := by decide +kernel
theorem dX10_make_32 : decode mX10_make.2.1 32 = .ok (.aload_n 0, 1) := by decide +kernel
theorem dX10_make_33 : decode mX10_make.2.1 33 = .ok (.getfield 230, 3) := by decide +kernel
theorem dX10_make_36 : decode mX10_make.2.1 36 = .ok (.iconst 1, 1) := by decide +kernel
theorem dX10_make_37 : decode mX10_make.2.1 37 = .ok (.isub, 1) := by decide +kernel
theorem dX10_make_38 : decode mX10_make.2.1 38 = .ok (.iaload, 1) := by decide +kernel
theorem dX10_make_39 : decode mX10_make.2.1 39 = .ok (.iastore, 1) := by decide +kernel
theorem dX10_make_40 : decode mX10_make.2.1 40 = .ok (.aload_n 0, 1) := by decide +kernel
theorem dX10_make_41 : decode mX10_make.2.1 41 = .ok (.getfield 52, 3) := by decide +kernel
theorem dX10_make_44 : decode mX10_make.2.1 44 = .ok (.aload_n 0, 1) := by decide +kernel
theorem dX10_make_45 : decode mX10_make.2.1 45 = .ok (.getfield 236, 3) := by decide +kernel
theorem dX10_make_48 : decode mX10_make.2.1 48 = .ok (.iconst (-1), 1) := by decide +kernel
theorem dX10_make_49 : decode mX10_make.2.1 49 = .ok (.iastore, 1) := by decide +kernel
theorem dX10_make_50 : decode mX10_make.2.1 50 = .ok (.aload_n 0, 1) := by decide +kernel
theorem dX10_make_51 : decode mX10_make.2.1 51 = .ok (.getfield 76, 3) := by decide +kernel
theorem dX10_make_54 : decode mX10_make.2.1 54 = .ok (.iload_n 1, 1) := by decide +kernel
theorem dX10_make_55 : decode mX10_make.2.1 55 = .ok (.dup2, 1) := by decide +kernel
theorem dX10_make_56 : decode mX10_make.2.1 56 = .ok (.iaload, 1) := by decide +kernel
theorem dX10_make_57 : decode mX10_make.2.1 57 = .ok (.iconst 1, 1) := by decide +kernel
theorem dX10_make_58 : decode mX10_make.2.1 58 = .ok (.iadd, 1) := by decide +kernel
theorem dX10_make_59 : decode mX10_make.2.1 59 = .ok (.iastore, 1) := by decide +kernel
theorem dX10_make_60 : decode mX10_make.2.1 60 = .ok (.aload_n 0, 1) := by decide +kernel
theorem dX10_make_61 : decode mX10_make.2.1 61 = .ok (.dup, 1) := by decide +kernel
theorem dX10_make_62 : decode mX10_make.2.1 62 = .ok (.getfield 236, 3) := by decide +kernel
theorem dX10_make_65 : decode mX10_make.2.1 65 = .ok (.iconst 1, 1) := by decide +kernel
theorem dX10_make_66 : decode mX10_make.2.1 66 = .ok (.iadd, 1) := by decide +kernel
theorem dX10_make_67 : decode mX10_make.2.1 67 = .ok (.putfield 236, 3) := by decide +kernel
theorem dX10_make_70 : decode mX10_make.2.1 70 = .ok (.aload_n 0, 1) := by decide +kernel
theorem dX10_make_71 : decode mX10_make.2.1 71 = .ok (.getfield 236, 3) := by decide +kernel
theorem dX10_make_74 : decode mX10_make.2.1 74 = .ok (.iconst 1, 1) := by decide +kernel
theorem dX10_make_75 : decode mX10_make.2.1 75 = .ok (.isub, 1) := by decide +kernel
theorem dX10_make_76 : decode mX10_make.2.1 76 = .ok (.ireturn, 1) := by decide +kernel
theorem dX10_lock_0 : decode mX10_lock.2.1 0 = .ok (.aload_n 0, 1) := by decide +kernel
theorem dX10_lock_1 : decode mX10_lock.2.1 1 = .ok (.dup, 1) := by decide +kernel
theorem dX10_lock_2 : decode mX10_lock.2.1 2 = .ok (.getfield 248, 3) := by decide +kernel
theorem dX10_lock_5 : decode mX10_lock.2.1 5 = .ok (.iconst 1, 1) := by decide +kernel
theorem dX10_lock_6 : decode mX10_lock.2.1 6 = .ok (.iadd, 1) := by decide +kernel
theorem dX10_lock_7 : decode mX10_lock.2.1 7 = .ok (.putfield 248, 3) := by decide +kernel
theorem dX10_lock_10 : decode mX10_lock.2.1 10 = .ok (.aload_n 0, 1) := by decide +kernel
theorem dX10_lock_11 : decode mX10_lock.2.1 11 = .ok (.getfield 82, 3) := by decide +kernel
theorem dX10_lock_14 : decode mX10_lock.2.1 14 = .ok (.aload_n 0, 1) := by decide +kernel
theorem dX10_lock_15 : decode mX10_lock.2.1 15 = .ok (.getfield 43, 3) := by decide +kernel
theorem dX10_lock_18 : decode mX10_lock.2.1 18 = .ok (.iload_n 3, 1) := by decide +kernel
theorem dX10_lock_19 : decode mX10_lock.2.1 19 = .ok (.iaload, 1) := by decide +kernel
theorem dX10_lock_20 : decode mX10_lock.2.1 20 = .ok (.dup2, 1) := by decide +kernel
theorem dX10_lock_21 : decode mX10_lock.2.1 21 = .ok (.iaload, 1) := by decide +kernel
theorem dX10_lock_22 : decode mX10_lock.2.1 22 = .ok (.iconst 1, 1) := by decide +kernel
theorem dX10_lock_23 : decode mX10_lock.2.1 23 = .ok (.iadd, 1) := by decide +kernel
theorem dX10_lock_24 : decode mX10_lock.2.1 24 = .ok (.iastore, 1) := by decide +kernel
theorem dX10_lock_25 : decode mX10_lock.2.1 25 = .ok (.aload_n 0, 1) := by decide +kernel
theorem dX10_lock_26 : decode mX10_lock.2.1 26 = .ok (.dup, 1) := by decide +kernel
theorem dX10_lock_27 : decode mX10_lock.2.1 27 = .ok (.getfield 251, 3) := by decide +kernel
theorem dX10_lock_30 : decode mX10_lock.2.1 30 = .ok (.aload_n 0, 1) := by decide +kernel
theorem dX10_lock_31 : decode mX10_lock.2.1 31 = .ok (.getfield 73, 3) := by decide +kernel
theorem dX10_lock_34 : decode mX10_lock.2.1 34 = .ok (.iload_n 1, 1) := by decide +kernel
theorem dX10_lock_35 : decode mX10_lock.2.1 35 = .ok (.iaload, 1) := by decide +kernel
theorem dX10_lock_36 : decode mX10_lock.2.1 36 = .ok (.iload_n 2, 1) := by decide +kernel
theorem dX10_lock_37 : decode mX10_lock.2.1 37 = .ok (.invokestatic 186, 3) := by decide +kernel
theorem dX10_lock_40 : decode mX10_lock.2.1 40 = .ok (.ifCond .eq 7, 3) := by decide +kernel
theorem dX10_lock_43 : decode mX10_lock.2.1 43 = .ok (.iconst 1, 1) := by decide +kernel
theorem dX10_lock_44 : decode mX10_lock.2.1 44 = .ok (.goto 4, 3) := by decide +kernel
theorem dX10_lock_47 : decode mX10_lock.2.1 47 = .ok (.iconst 0, 1) := by decide +kernel
theorem dX10_lock_48 : decode mX10_lock.2.1 48 = .ok (.iadd, 1) := by decide +kernel
theorem dX10_lock_49 : decode mX10_lock.2.1 49 = .ok (.putfield 251, 3) := by decide +kernel
theorem dX10_lock_52 : decode mX10_lock.2.1 52 = .ok (.return_, 1) := by decide +kernel
theorem dX10_step_0 : decode mX10_step.2.1 0 = .ok (.aload_n 0, 1) := by decide +kernel
theorem dX10_step_1 : decode mX10_step.2.1 1 = .ok (.getfield 230, 3) := by decide +kernel
theorem dX10_step_4 : decode mX10_step.2.1 4 = .ok (.iconst 1, 1) := by decide +kernel
theorem dX10_step_5 : decode mX10_step.2.1 5 = .ok (.isub, 1) := by decide +kernel
theorem dX10_step_6 : decode mX10_step.2.1 6 = .ok (.istore_n 1, 1) := by decide +kernel
theorem dX10_step_7 : decode mX10_step.2.1 7 = .ok (.aload_n 0, 1) := by decide +kernel
theorem dX10_step_8 : decode mX10_step.2.1 8 = .ok (.getfield 58, 3) := by decide +kernel
theorem dX10_step_11 : decode mX10_step.2.1 11 = .ok (.iload_n 1, 1) := by decide +kernel
theorem dX10_step_12 : decode mX10_step.2.1 12 = .ok (.iaload, 1) := by decide +kernel
theorem dX10_step_13 : decode mX10_step.2.1 13 = .ok (.istore_n 2, 1) := by decide +kernel
theorem dX10_step_14 : decode mX10_step.2.1 14 = .ok (.aload_n 0, 1) := by decide +kernel
theorem dX10_step_15 : decode mX10_step.2.1 15 = .ok (.getfield 61, 3) := by decide +kernel
theorem dX10_step_18 : decode mX10_step.2.1 18 = .ok (.iload_n 1, 1) := by decide +kernel
theorem dX10_step_19 : decode mX10_step.2.1 19 = .ok (.iaload, 1) := by decide +kernel
theorem dX10_step_20 : decode mX10_step.2.1 20 = .ok (.istore_n 3, 1) := by decide +kernel
theorem dX10_step_21 : decode mX10_step.2.1 21 = .ok (.iload_n 3, 1) := by decide +kernel
theorem dX10_step_22 : decode mX10_step.2.1 22 = .ok (.aload_n 0, 1) := by decide +kernel
theorem dX10_step_23 : decode mX10_step.2.1 23 = .ok (.iload_n 2, 1) := by decide +kernel
theorem dX10_step_24 : decode mX10_step.2.1 24 = .ok (.invokevirtual 168, 3) := by decide +kernel
theorem dX10_step_27 : decode mX10_step.2.1 27 = .ok (.if_icmp .ne 8, 3) := by decide +kernel
theorem dX10_step_30 : decode mX10_step.2.1 30 = .ok (.aload_n 0, 1) := by decide +kernel
theorem dX10_step_31 : decode mX10_step.2.1 31 = .ok (.invokevirtual 254, 3) := by decide +kernel
theorem dX10_step_34 : decode mX10_step.2.1 34 = .ok (.return_, 1) := by decide +kernel
theorem dX10_step_35 : decode mX10_step.2.1 35 = .ok (.aload_n 0, 1) := by decide +kernel
theorem dX10_step_36 : decode mX10_step.2.1 36 = .ok (.getfield 61, 3) := by decide +kernel
theorem dX10_step_39 : decode mX10_step.2.1 39 = .ok (.iload_n 1, 1) := by decide +kernel
theorem dX10_step_40 : decode mX10_step.2.1 40 = .ok (.dup2, 1) := by decide +kernel
theorem dX10_step_41 : decode mX10_step.2.1 41 = .ok (.iaload, 1) := by decide +kernel
theorem dX10_step_42 : decode mX10_step.2.1 42 = .ok (.iconst 1, 1) := by decide +kernel
theorem dX10_step_43 : decode mX10_step.2.1 43 = .ok (.iadd, 1) := by decide +kernel
theorem dX10_step_44 : decode mX10_step.2.1 44 = .ok (.iastore, 1) := by decide +kernel
theorem dX10_step_45 : decode mX10_step.2.1 45 = .ok (.aload_n 0, 1) := by decide +kernel
theorem dX10_step_46 : decode mX10_step.2.1 46 = .ok (.iload_n 2, 1) := by decide +kernel
theorem dX10_step_47 : decode mX10_step.2.1 47 = .ok (.iload_n 3, 1) := by decide +kernel
theorem dX10_step_48 : decode mX10_step.2.1 48 = .ok (.iconst 0, 1) := by decide +kernel
theorem dX10_step_49 : decode mX10_step.2.1 49 = .ok (.invokevirtual 178, 3) := by decide +kernel
theorem dX10_step_52 : decode mX10_step.2.1 52 = .ok (.istore 4, 2) := by decide +kernel
theorem dX10_step_54 : decode mX10_step.2.1 54 = .ok (.iconst 4, 1) := by decide +kernel
theorem dX10_step_55 : decode mX10_step.2.1 55 = .ok (.iload_n 1, 1) := by decide +kernel
theorem dX10_step_56 : decode mX10_step.2.1 56 = .ok (.imul, 1) := by decide +kernel
theorem dX10_step_57 : decode mX10_step.2.1 57 = .ok (.aload_n 0, 1) := by decide +kernel
theorem dX10_step_58 : decode mX10_step.2.1 58 = .ok (.iload_n 2, 1) := by decide +kernel
theorem dX10_step_59 : decode mX10_step.2.1 59 = .ok (.iload_n 3, 1) := by decide +kernel
theorem dX10_step_60 : decode mX10_step.2.1 60 = .ok (.iconst 1, 1) := by decide +kernel
theorem dX10_step_61 : decode mX10_step.2.1 61 = .ok (.invokevirtual 178, 3) := by decide +kernel
theorem dX10_step_64 : decode mX10_step.2.1 64 = .ok (.iadd, 1) := by decide +kernel
theorem dX10_step_65 : decode mX10_step.2.1 65 = .ok (.istore 5, 2) := by decide +kernel
theorem dX10_step_67 : decode mX10_step.2.1 67 = .ok (.iload 4, 2) := by decide +kernel
theorem dX10_step_69 : decode mX10_step.2.1 69 = .ok (.iconst 1, 1) := by decide +kernel
theorem dX10_step_70 : decode mX10_step.2.1 70 = .ok (.if_icmp .eq 22, 3) := by decide +kernel
theorem dX10_step_73 : decode mX10_step.2.1 73 = .ok (.iload 4, 2) := by decide +kernel
theorem dX10_step_75 : decode mX10_step.2.1 75 = .ok (.iconst 2, 1) := by decide +kernel
theorem dX10_step_76 : decode mX10_step.2.1 76 = .ok (.if_icmp .eq 16, 3) := by decide +kernel
theorem dX10_step_79 : decode mX10_step.2.1 79 = .ok (.iload 4, 2) := by decide +kernel
theorem dX10_step_81 : decode mX10_step.2.1 81 = .ok (.iconst 3, 1) := by decide +kernel
theorem dX10_step_82 : decode mX10_step.2.1 82 = .ok (.if_icmp .eq 10, 3) := by decide +kernel
theorem dX10_step_85 : decode mX10_step.2.1 85 = .ok (.iload 4, 2) := by decide +kernel
theorem dX10_step_87 : decode mX10_step.2.1 87 = .ok (.bipush 7, 2) := by decide +kernel
theorem dX10_step_89 : decode mX10_step.2.1 89 = .ok (.if_icmp .ne 22, 3) := by decide +kernel
theorem dX10_step_92 : decode mX10_step.2.1 92 = .ok (.aload_n 0, 1) := by decide +kernel
theorem dX10_step_93 : decode mX10_step.2.1 93 = .ok (.getfield 55, 3) := by decide +kernel
theorem dX10_step_96 : decode mX10_step.2.1 96 = .ok (.iconst 4, 1) := by decide +kernel
theorem dX10_step_97 : decode mX10_step.2.1 97 = .ok (.iload_n 1, 1) := by decide +kernel
theorem dX10_step_98 : decode mX10_step.2.1 98 = .ok (.imul, 1) := by decide +kernel
theorem dX10_step_99 : decode mX10_step.2.1 99 = .ok (.aload_n 0, 1) := by decide +kernel
theorem dX10_step_100 : decode mX10_step.2.1 100 = .ok (.iload_n 2, 1) := by decide +kernel
theorem dX10_step_101 : decode mX10_step.2.1 101 = .ok (.iload_n 3, 1) := by decide +kernel
theorem dX10_step_102 : decode mX10_step.2.1 102 = .ok (.iconst 2, 1) := by decide +kernel
theorem dX10_step_103 : decode mX10_step.2.1 103 = .ok (.invokevirtual 178, 3) := by decide +kernel
theorem dX10_step_106 : decode mX10_step.2.1 106 = .ok (.iadd, 1) := by decide +kernel
theorem dX10_step_107 : decode mX10_step.2.1 107 = .ok (.iaload, 1) := by decide +kernel
theorem dX10_step_108 : decode mX10_step.2.1 108 = .ok (.goto 4, 3) := by decide +kernel
theorem dX10_step_111 : decode mX10_step.2.1 111 = .ok (.iconst (-1), 1) := by decide +kernel
theorem dX10_step_112 : decode mX10_step.2.1 112 = .ok (.istore 6, 2) := by decide +kernel
theorem dX10_step_114 : decode mX10_step.2.1 114 = .ok (.aload_n 0, 1) := by decide +kernel
theorem dX10_step_115 : decode mX10_step.2.1 115 = .ok (.iload 4, 2) := by decide +kernel
theorem dX10_step_117 : decode mX10_step.2.1 117 = .ok (.iconst 2, 1) := by decide +kernel
theorem dX10_step_118 : decode mX10_step.2.1 118 = .ok (.if_icmp .eq 10, 3) := by decide +kernel
theorem dX10_step_121 : decode mX10_step.2.1 121 = .ok (.iload 4, 2) := by decide +kernel
theorem dX10_step_123 : decode mX10_step.2.1 123 = .ok (.bipush 6, 2) := by decide +kernel
theorem dX10_step_125 : decode mX10_step.2.1 125 = .ok (.if_icmp .ne 14, 3) := by decide +kernel
theorem dX10_step_128 : decode mX10_step.2.1 128 = .ok (.aload_n 0, 1) := by decide +kernel
theorem dX10_step_129 : decode mX10_step.2.1 129 = .ok (.getfield 55, 3) := by decide +kernel
theorem dX10_step_132 : decode mX10_step.2.1 132 = .ok (.iload 5, 2) := by decide +kernel
theorem dX10_step_134 : decode mX10_step.2.1 134 = .ok (.iaload, 1) := by decide +kernel
theorem dX10_step_135 : decode mX10_step.2.1 135 = .ok (.iconst (-1), 1) := by decide +kernel
theorem dX10_step_136 : decode mX10_step.2.1 136 = .ok (.if_icmp .eq 15, 3) := by decide +kernel
theorem dX10_step_139 : decode mX10_step.2.1 139 = .ok (.iload 4, 2) := by decide +kernel
theorem dX10_step_141 : decode mX10_step.2.1 141 = .ok (.iconst 3, 1) := by decide +kernel
theorem dX10_step_142 : decode mX10_step.2.1 142 = .ok (.if_icmp .ne 13, 3) := by decide +kernel
theorem dX10_step_145 : decode mX10_step.2.1 145 = .ok (.iload 6, 2) := by decide +kernel
theorem dX10_step_147 : decode mX10_step.2.1 147 = .ok (.iconst (-1), 1) := by decide +kernel
theorem dX10_step_148 : decode mX10_step.2.1 148 = .ok (.if_icmp .ne 7, 3) := by decide +kernel
theorem dX10_step_151 : decode mX10_step.2.1 151 = .ok (.iconst 1, 1) := by decide +kernel
theorem dX10_step_152 : decode mX10_step.2.1 152 = .ok (.goto 4, 3) := by decide +kernel
theorem dX10_step_155 : decode mX10_step.2.1 155 = .ok (.iconst 0, 1) := by decide +kernel
theorem dX10_step_156 : decode mX10_step.2.1 156 = .ok (.putfield 257, 3) := by decide +kernel
theorem dX10_step_159 : decode mX10_step.2.1 159 = .ok (.aload_n 0, 1) := by decide +kernel
theorem dX10_step_160 : decode mX10_step.2.1 160 = .ok (.getfield 257, 3) := by decide +kernel
theorem dX10_step_163 : decode mX10_step.2.1 163 = .ok (.ifCond .eq 4, 3) := by decide +kernel
theorem dX10_step_166 : decode mX10_step.2.1 166 = .ok (.return_, 1) := by decide +kernel
theorem dX10_step_167 : decode mX10_step.2.1 167 = .ok (.iload 4, 2) := by decide +kernel
theorem dX10_step_169 : decode mX10_step.2.1 169 = .ok (.tableswitch 158 0 6 #[43, 68, 80, 97, 114, 128, 142], 43) := by decide +kernel
theorem dX10_step_212 : decode mX10_step.2.1 212 = .ok (.aload_n 0, 1) := by decide +kernel
theorem dX10_step_213 : decode mX10_step.2.1 213 = .ok (.getfield 55, 3) := by decide +kernel
theorem dX10_step_216 : decode mX10_step.2.1 216 = .ok (.iload 5, 2) := by decide +kernel
theorem dX10_step_218 : decode mX10_step.2.1 218 = .ok (.aload_n 0, 1) := by decide +kernel
theorem dX10_step_219 : decode mX10_step.2.1 219 = .ok (.aload_n 0, 1) := by decide +kernel
theorem dX10_step_220 : decode mX10_step.2.1 220 = .ok (.getfield 37, 3) := by decide +kernel
theorem dX10_step_223 : decode mX10_step.2.1 223 = .ok (.bipush 8, 2) := by decide +kernel
theorem dX10_step_225 : decode mX10_step.2.1 225 = .ok (.iload_n 2, 1) := by decide +kernel
theorem dX10_step_226 : decode mX10_step.2.1 226 = .ok (.imul, 1) := by decide +kernel
theorem dX10_step_227 : decode mX10_step.2.1 227 = .ok (.iload_n 3, 1) := by decide +kernel
theorem dX10_step_228 : decode mX10_step.2.1 228 = .ok (.iadd, 1) := by decide +kernel
theorem dX10_step_229 : decode mX10_step.2.1 229 = .ok (.iaload, 1) := by decide +kernel
theorem dX10_step_230 : decode mX10_step.2.1 230 = .ok (.invokevirtual 260, 3) := by decide +kernel
theorem dX10_step_233 : decode mX10_step.2.1 233 = .ok (.iastore, 1) := by decide +kernel
theorem dX10_step_234 : decode mX10_step.2.1 234 = .ok (.goto 106, 3) := by decide +kernel
theorem dX10_step_237 : decode mX10_step.2.1 237 = .ok (.aload_n 0, 1) := by decide +kernel
theorem dX10_step_238 : decode mX10_step.2.1 238 = .ok (.getfield 55, 3) := by decide +kernel
theorem dX10_step_241 : decode mX10_step.2.1 241 = .ok (.iload 5, 2) := by decide +kernel
theorem dX10_step_243 : decode mX10_step.2.1 243 = .ok (.iload 6, 2) := by decide +kernel
theorem dX10_step_245 : decode mX10_step.2.1 245 = .ok (.iastore, 1) := by decide +kernel
theorem dX10_step_246 : decode mX10_step.2.1 246 = .ok (.goto 94, 3) := by decide +kernel
theorem dX10_step_249 : decode mX10_step.2.1 249 = .ok (.aload_n 0, 1) := by decide +kernel
theorem dX10_step_250 : decode mX10_step.2.1 250 = .ok (.getfield 46, 3) := by decide +kernel
theorem dX10_step_253 : decode mX10_step.2.1 253 = .ok (.aload_n 0, 1) := by decide +kernel
theorem dX10_step_254 : decode mX10_step.2.1 254 = .ok (.getfield 55, 3) := by decide +kernel
theorem dX10_step_257 : decode mX10_step.2.1 257 = .ok (.iload 5, 2) := by decide +kernel
theorem dX10_step_259 : decode mX10_step.2.1 259 = .ok (.iaload, 1) := by decide +kernel
theorem dX10_step_260 : decode mX10_step.2.1 260 = .ok (.iload 6, 2) := by decide +kernel
theorem dX10_step_262 : decode mX10_step.2.1 262 = .ok (.iastore, 1) := by decide +kernel
theorem dX10_step_263 : decode mX10_step.2.1 263 = .ok (.goto 77, 3) := by decide +kernel
theorem dX10_step_266 : decode mX10_step.2.1 266 = .ok (.aload_n 0, 1) := by decide +kernel
theorem dX10_step_267 : decode mX10_step.2.1 267 = .ok (.getfield 55, 3) := by decide +kernel
theorem dX10_step_270 : decode mX10_step.2.1 270 = .ok (.iload 5, 2) := by decide +kernel
theorem dX10_step_272 : decode mX10_step.2.1 272 = .ok (.aload_n 0, 1) := by decide +kernel
theorem dX10_step_273 : decode mX10_step.2.1 273 = .ok (.getfield 46, 3) := by decide +kernel
theorem dX10_step_276 : decode mX10_step.2.1 276 = .ok (.iload 6, 2) := by decide +kernel
theorem dX10_step_278 : decode mX10_step.2.1 278 = .ok (.iaload, 1) := by decide +kernel
theorem dX10_step_279 : decode mX10_step.2.1 279 = .ok (.iastore, 1) := by decide +kernel
theorem dX10_step_280 : decode mX10_step.2.1 280 = .ok (.goto 60, 3) := by decide +kernel
theorem dX10_step_283 : decode mX10_step.2.1 283 = .ok (.aload_n 0, 1) := by decide +kernel
theorem dX10_step_284 : decode mX10_step.2.1 284 = .ok (.aload_n 0, 1) := by decide +kernel
theorem dX10_step_285 : decode mX10_step.2.1 285 = .ok (.getfield 55, 3) := by decide +kernel
theorem dX10_step_288 : decode mX10_step.2.1 288 = .ok (.iload 5, 2) := by decide +kernel
theorem dX10_step_290 : decode mX10_step.2.1 290 = .ok (.iaload, 1) := by decide +kernel
theorem dX10_step_291 : decode mX10_step.2.1 291 = .ok (.putfield 239, 3) := by decide +kernel
theorem dX10_step_294 : decode mX10_step.2.1 294 = .ok (.goto 46, 3) := by decide +kernel
theorem dX10_step_297 : decode mX10_step.2.1 297 = .ok (.aload_n 0, 1) := by decide +kernel
theorem dX10_step_298 : decode mX10_step.2.1 298 = .ok (.getfield 55, 3) := by decide +kernel
theorem dX10_step_301 : decode mX10_step.2.1 301 = .ok (.iload 5, 2) := by decide +kernel
theorem dX10_step_303 : decode mX10_step.2.1 303 = .ok (.aload_n 0, 1) := by decide +kernel
theorem dX10_step_304 : decode mX10_step.2.1 304 = .ok (.getfield 239, 3) := by decide +kernel
theorem dX10_step_307 : decode mX10_step.2.1 307 = .ok (.iastore, 1) := by decide +kernel
theorem dX10_step_308 : decode mX10_step.2.1 308 = .ok (.goto 32, 3) := by decide +kernel
theorem dX10_step_311 : decode mX10_step.2.1 311 = .ok (.aload_n 0, 1) := by decide +kernel
theorem dX10_step_312 : decode mX10_step.2.1 312 = .ok (.iload_n 2, 1) := by decide +kernel
theorem dX10_step_313 : decode mX10_step.2.1 313 = .ok (.iload_n 3, 1) := by decide +kernel
theorem dX10_step_314 : decode mX10_step.2.1 314 = .ok (.aload_n 0, 1) := by decide +kernel
theorem dX10_step_315 : decode mX10_step.2.1 315 = .ok (.getfield 55, 3) := by decide +kernel
theorem dX10_step_318 : decode mX10_step.2.1 318 = .ok (.iload 5, 2) := by decide +kernel
theorem dX10_step_320 : decode mX10_step.2.1 320 = .ok (.iaload, 1) := by decide +kernel
theorem dX10_step_321 : decode mX10_step.2.1 321 = .ok (.invokevirtual 263, 3) := by decide +kernel
theorem dX10_step_324 : decode mX10_step.2.1 324 = .ok (.goto 16, 3) := by decide +kernel
theorem dX10_step_327 : decode mX10_step.2.1 327 = .ok (.aload_n 0, 1) := by decide +kernel
theorem dX10_step_328 : decode mX10_step.2.1 328 = .ok (.aload_n 0, 1) := by decide +kernel
theorem dX10_step_329 : decode mX10_step.2.1 329 = .ok (.iload_n 2, 1) := by decide +kernel
theorem dX10_step_330 : decode mX10_step.2.1 330 = .ok (.iload_n 3, 1) := by decide +kernel
theorem dX10_step_331 : decode mX10_step.2.1 331 = .ok (.iconst 3, 1) := by decide +kernel
theorem dX10_step_332 : decode mX10_step.2.1 332 = .ok (.invokevirtual 178, 3) := by decide +kernel
theorem dX10_step_335 : decode mX10_step.2.1 335 = .ok (.iload 6, 2) := by decide +kernel
theorem dX10_step_337 : decode mX10_step.2.1 337 = .ok (.invokevirtual 267, 3) := by decide +kernel
theorem dX10_step_340 : decode mX10_step.2.1 340 = .ok (.return_, 1) := by decide +kernel
theorem dX10_goRun_0 : decode mX10_goRun.2.1 0 = .ok (.aload_n 0, 1) := by decide +kernel
theorem dX10_goRun_1 : decode mX10_goRun.2.1 1 = .ok (.invokevirtual 214, 3) := by decide +kernel
theorem dX10_goRun_4 : decode mX10_goRun.2.1 4 = .ok (.aload_n 0, 1) := by decide +kernel
theorem dX10_goRun_5 : decode mX10_goRun.2.1 5 = .ok (.iconst 0, 1) := by decide +kernel
theorem dX10_goRun_6 : decode mX10_goRun.2.1 6 = .ok (.putfield 236, 3) := by decide +kernel
theorem dX10_goRun_9 : decode mX10_goRun.2.1 9 = .ok (.aload_n 0, 1) := by decide +kernel
theorem dX10_goRun_10 : decode mX10_goRun.2.1 10 = .ok (.iconst (-1), 1) := by decide +kernel
theorem dX10_goRun_11 : decode mX10_goRun.2.1 11 = .ok (.putfield 239, 3) := by decide +kernel
theorem dX10_goRun_14 : decode mX10_goRun.2.1 14 = .ok (.aload_n 0, 1) := by decide +kernel
theorem dX10_goRun_15 : decode mX10_goRun.2.1 15 = .ok (.iconst 0, 1) := by decide +kernel
theorem dX10_goRun_16 : decode mX10_goRun.2.1 16 = .ok (.putfield 230, 3) := by decide +kernel
theorem dX10_goRun_19 : decode mX10_goRun.2.1 19 = .ok (.aload_n 0, 1) := by decide +kernel
theorem dX10_goRun_20 : decode mX10_goRun.2.1 20 = .ok (.iconst 0, 1) := by decide +kernel
theorem dX10_goRun_21 : decode mX10_goRun.2.1 21 = .ok (.putfield 257, 3) := by decide +kernel
theorem dX10_goRun_24 : decode mX10_goRun.2.1 24 = .ok (.aload_n 0, 1) := by decide +kernel
theorem dX10_goRun_25 : decode mX10_goRun.2.1 25 = .ok (.iconst 0, 1) := by decide +kernel
theorem dX10_goRun_26 : decode mX10_goRun.2.1 26 = .ok (.putfield 248, 3) := by decide +kernel
theorem dX10_goRun_29 : decode mX10_goRun.2.1 29 = .ok (.aload_n 0, 1) := by decide +kernel
theorem dX10_goRun_30 : decode mX10_goRun.2.1 30 = .ok (.iconst 0, 1) := by decide +kernel
theorem dX10_goRun_31 : decode mX10_goRun.2.1 31 = .ok (.putfield 251, 3) := by decide +kernel
theorem dX10_goRun_34 : decode mX10_goRun.2.1 34 = .ok (.aload_n 0, 1) := by decide +kernel
theorem dX10_goRun_35 : decode mX10_goRun.2.1 35 = .ok (.iconst 0, 1) := by decide +kernel
theorem dX10_goRun_36 : decode mX10_goRun.2.1 36 = .ok (.putfield 233, 3) := by decide +kernel
theorem dX10_goRun_39 : decode mX10_goRun.2.1 39 = .ok (.aload_n 0, 1) := by decide +kernel
theorem dX10_goRun_40 : decode mX10_goRun.2.1 40 = .ok (.iconst 0, 1) := by decide +kernel
theorem dX10_goRun_41 : decode mX10_goRun.2.1 41 = .ok (.putfield 245, 3) := by decide +kernel
theorem dX10_goRun_44 : decode mX10_goRun.2.1 44 = .ok (.iconst 0, 1) := by decide +kernel
theorem dX10_goRun_45 : decode mX10_goRun.2.1 45 = .ok (.istore_n 1, 1) := by decide +kernel
theorem dX10_goRun_46 : decode mX10_goRun.2.1 46 = .ok (.iload_n 1, 1) := by decide +kernel
theorem dX10_goRun_47 : decode mX10_goRun.2.1 47 = .ok (.bipush 32, 2) := by decide +kernel
theorem dX10_goRun_49 : decode mX10_goRun.2.1 49 = .ok (.if_icmp .ge 30, 3) := by decide +kernel
theorem dX10_goRun_52 : decode mX10_goRun.2.1 52 = .ok (.aload_n 0, 1) := by decide +kernel
theorem dX10_goRun_53 : decode mX10_goRun.2.1 53 = .ok (.getfield 76, 3) := by decide +kernel
theorem dX10_goRun_56 : decode mX10_goRun.2.1 56 = .ok (.iload_n 1, 1) := by decide +kernel
theorem dX10_goRun_57 : decode mX10_goRun.2.1 57 = .ok (.iconst 0, 1) := by decide +kernel
theorem dX10_goRun_58 : decode mX10_goRun.2.1 58 = .ok (.iastore, 1) := by decide +kernel
theorem dX10_goRun_59 : decode mX10_goRun.2.1 59 = .ok (.aload_n 0, 1) := by decide +kernel
theorem dX10_goRun_60 : decode mX10_goRun.2.1 60 = .ok (.getfield 79, 3) := by decide +kernel
theorem dX10_goRun_63 : decode mX10_goRun.2.1 63 = .ok (.iload_n 1, 1) := by decide +kernel
theorem dX10_goRun_64 : decode mX10_goRun.2.1 64 = .ok (.iconst 0, 1) := by decide +kernel
theorem dX10_goRun_65 : decode mX10_goRun.2.1 65 = .ok (.iastore, 1) := by decide +kernel
theorem dX10_goRun_66 : decode mX10_goRun.2.1 66 = .ok (.aload_n 0, 1) := by decide +kernel
theorem dX10_goRun_67 : decode mX10_goRun.2.1 67 = .ok (.getfield 82, 3) := by decide +kernel
theorem dX10_goRun_70 : decode mX10_goRun.2.1 70 = .ok (.iload_n 1, 1) := by decide +kernel
theorem dX10_goRun_71 : decode mX10_goRun.2.1 71 = .ok (.iconst 0, 1) := by decide +kernel
theorem dX10_goRun_72 : decode mX10_goRun.2.1 72 = .ok (.iastore, 1) := by decide +kernel
theorem dX10_goRun_73 : decode mX10_goRun.2.1 73 = .ok (.iinc 1 1, 3) := by decide +kernel
theorem dX10_goRun_76 : decode mX10_goRun.2.1 76 = .ok (.goto (-30), 3) := by decide +kernel
theorem dX10_goRun_79 : decode mX10_goRun.2.1 79 = .ok (.iconst 0, 1) := by decide +kernel
theorem dX10_goRun_80 : decode mX10_goRun.2.1 80 = .ok (.istore_n 1, 1) := by decide +kernel
theorem dX10_goRun_81 : decode mX10_goRun.2.1 81 = .ok (.iload_n 1, 1) := by decide +kernel
theorem dX10_goRun_82 : decode mX10_goRun.2.1 82 = .ok (.aload_n 0, 1) := by decide +kernel
theorem dX10_goRun_83 : decode mX10_goRun.2.1 83 = .ok (.getfield 7, 3) := by decide +kernel
theorem dX10_goRun_86 : decode mX10_goRun.2.1 86 = .ok (.iconst 0, 1) := by decide +kernel
theorem dX10_goRun_87 : decode mX10_goRun.2.1 87 = .ok (.iaload, 1) := by decide +kernel
theorem dX10_goRun_88 : decode mX10_goRun.2.1 88 = .ok (.if_icmp .ge 20, 3) := by decide +kernel
theorem dX10_goRun_91 : decode mX10_goRun.2.1 91 = .ok (.aload_n 0, 1) := by decide +kernel
theorem dX10_goRun_92 : decode mX10_goRun.2.1 92 = .ok (.getfield 73, 3) := by decide +kernel
theorem dX10_goRun_95 : decode mX10_goRun.2.1 95 = .ok (.iload_n 1, 1) := by decide +kernel
theorem dX10_goRun_96 : decode mX10_goRun.2.1 96 = .ok (.aload_n 0, 1) := by decide +kernel
theorem dX10_goRun_97 : decode mX10_goRun.2.1 97 = .ok (.iload_n 1, 1) := by decide +kernel
theorem dX10_goRun_98 : decode mX10_goRun.2.1 98 = .ok (.invokevirtual 211, 3) := by decide +kernel
theorem dX10_goRun_101 : decode mX10_goRun.2.1 101 = .ok (.iastore, 1) := by decide +kernel
theorem dX10_goRun_102 : decode mX10_goRun.2.1 102 = .ok (.iinc 1 1, 3) := by decide +kernel
theorem dX10_goRun_105 : decode mX10_goRun.2.1 105 = .ok (.goto (-24), 3) := by decide +kernel
theorem dX10_goRun_108 : decode mX10_goRun.2.1 108 = .ok (.aload_n 0, 1) := by decide +kernel
theorem dX10_goRun_109 : decode mX10_goRun.2.1 109 = .ok (.getfield 7, 3) := by decide +kernel
theorem dX10_goRun_112 : decode mX10_goRun.2.1 112 = .ok (.iconst 0, 1) := by decide +kernel
theorem dX10_goRun_113 : decode mX10_goRun.2.1 113 = .ok (.iaload, 1) := by decide +kernel
theorem dX10_goRun_114 : decode mX10_goRun.2.1 114 = .ok (.ifCond .le 9, 3) := by decide +kernel
theorem dX10_goRun_117 : decode mX10_goRun.2.1 117 = .ok (.aload_n 0, 1) := by decide +kernel
theorem dX10_goRun_118 : decode mX10_goRun.2.1 118 = .ok (.iconst 0, 1) := by decide +kernel
theorem dX10_goRun_119 : decode mX10_goRun.2.1 119 = .ok (.iconst (-1), 1) := by decide +kernel
theorem dX10_goRun_120 : decode mX10_goRun.2.1 120 = .ok (.invokevirtual 267, 3) := by decide +kernel
theorem dX10_goRun_123 : decode mX10_goRun.2.1 123 = .ok (.aload_n 0, 1) := by decide +kernel
theorem dX10_goRun_124 : decode mX10_goRun.2.1 124 = .ok (.getfield 230, 3) := by decide +kernel
theorem dX10_goRun_127 : decode mX10_goRun.2.1 127 = .ok (.ifCond .le 17, 3) := by decide +kernel
theorem dX10_goRun_130 : decode mX10_goRun.2.1 130 = .ok (.aload_n 0, 1) := by decide +kernel
theorem dX10_goRun_131 : decode mX10_goRun.2.1 131 = .ok (.getfield 257, 3) := by decide +kernel
theorem dX10_goRun_134 : decode mX10_goRun.2.1 134 = .ok (.ifCond .ne 10, 3) := by decide +kernel
theorem dX10_goRun_137 : decode mX10_goRun.2.1 137 = .ok (.aload_n 0, 1) := by decide +kernel
theorem dX10_goRun_138 : decode mX10_goRun.2.1 138 = .ok (.invokevirtual 270, 3) := by decide +kernel
theorem dX10_goRun_141 : decode mX10_goRun.2.1 141 = .ok (.goto (-18), 3) := by decide +kernel
theorem dX10_goRun_144 : decode mX10_goRun.2.1 144 = .ok (.return_, 1) := by decide +kernel
theorem dX10_ofRun_0 : decode mX10_ofRun.2.1 0 = .ok (.iload_n 1, 1) := by decide +kernel
theorem dX10_ofRun_1 : decode mX10_ofRun.2.1 1 = .ok (.ifCond .ne 18, 3) := by decide +kernel
theorem dX10_ofRun_4 : decode mX10_ofRun.2.1 4 = .ok (.aload_n 0, 1) := by decide +kernel
theorem dX10_ofRun_5 : decode mX10_ofRun.2.1 5 = .ok (.getfield 257, 3) := by decide +kernel
theorem dX10_ofRun_8 : decode mX10_ofRun.2.1 8 = .ok (.ifCond .eq 7, 3) := by decide +kernel
theorem dX10_ofRun_11 : decode mX10_ofRun.2.1 11 = .ok (.iconst 1, 1) := by decide +kernel
theorem dX10_ofRun_12 : decode mX10_ofRun.2.1 12 = .ok (.goto 59, 3) := by decide +kernel
theorem dX10_ofRun_15 : decode mX10_ofRun.2.1 15 = .ok (.iconst 0, 1) := by decide +kernel
theorem dX10_ofRun_16 : decode mX10_ofRun.2.1 16 = .ok (.goto 55, 3) := by decide +kernel
theorem dX10_ofRun_19 : decode mX10_ofRun.2.1 19 = .ok (.iload_n 1, 1) := by decide +kernel
theorem dX10_ofRun_20 : decode mX10_ofRun.2.1 20 = .ok (.iconst 1, 1) := by decide +kernel
theorem dX10_ofRun_21 : decode mX10_ofRun.2.1 21 = .ok (.if_icmp .ne 10, 3) := by decide +kernel
theorem dX10_ofRun_24 : decode mX10_ofRun.2.1 24 = .ok (.aload_n 0, 1) := by decide +kernel
theorem dX10_ofRun_25 : decode mX10_ofRun.2.1 25 = .ok (.getfield 236, 3) := by decide +kernel
theorem dX10_ofRun_28 : decode mX10_ofRun.2.1 28 = .ok (.goto 43, 3) := by decide +kernel
theorem dX10_ofRun_31 : decode mX10_ofRun.2.1 31 = .ok (.iload_n 1, 1) := by decide +kernel
theorem dX10_ofRun_32 : decode mX10_ofRun.2.1 32 = .ok (.iconst 2, 1) := by decide +kernel
theorem dX10_ofRun_33 : decode mX10_ofRun.2.1 33 = .ok (.if_icmp .ne 10, 3) := by decide +kernel
theorem dX10_ofRun_36 : decode mX10_ofRun.2.1 36 = .ok (.aload_n 0, 1) := by decide +kernel
theorem dX10_ofRun_37 : decode mX10_ofRun.2.1 37 = .ok (.getfield 248, 3) := by decide +kernel
theorem dX10_ofRun_40 : decode mX10_ofRun.2.1 40 = .ok (.goto 31, 3) := by decide +kernel
theorem dX10_ofRun_43 : decode mX10_ofRun.2.1 43 = .ok (.iload_n 1, 1) := by decide +kernel
theorem dX10_ofRun_44 : decode mX10_ofRun.2.1 44 = .ok (.iconst 3, 1) := by decide +kernel
theorem dX10_ofRun_45 : decode mX10_ofRun.2.1 45 = .ok (.if_icmp .ne 10, 3) := by decide +kernel
theorem dX10_ofRun_48 : decode mX10_ofRun.2.1 48 = .ok (.aload_n 0, 1) := by decide +kernel
theorem dX10_ofRun_49 : decode mX10_ofRun.2.1 49 = .ok (.getfield 251, 3) := by decide +kernel
theorem dX10_ofRun_52 : decode mX10_ofRun.2.1 52 = .ok (.goto 19, 3) := by decide +kernel
theorem dX10_ofRun_55 : decode mX10_ofRun.2.1 55 = .ok (.iload_n 1, 1) := by decide +kernel
theorem dX10_ofRun_56 : decode mX10_ofRun.2.1 56 = .ok (.iconst 4, 1) := by decide +kernel
theorem dX10_ofRun_57 : decode mX10_ofRun.2.1 57 = .ok (.if_icmp .ne 10, 3) := by decide +kernel
theorem dX10_ofRun_60 : decode mX10_ofRun.2.1 60 = .ok (.aload_n 0, 1) := by decide +kernel
theorem dX10_ofRun_61 : decode mX10_ofRun.2.1 61 = .ok (.getfield 233, 3) := by decide +kernel
theorem dX10_ofRun_64 : decode mX10_ofRun.2.1 64 = .ok (.goto 7, 3) := by decide +kernel
theorem dX10_ofRun_67 : decode mX10_ofRun.2.1 67 = .ok (.aload_n 0, 1) := by decide +kernel
theorem dX10_ofRun_68 : decode mX10_ofRun.2.1 68 = .ok (.getfield 245, 3) := by decide +kernel
theorem dX10_ofRun_71 : decode mX10_ofRun.2.1 71 = .ok (.ireturn, 1) := by decide +kernel
theorem dX10_run_0 : decode mX10_run.2.1 0 = .ok (.iload_n 1, 1) := by decide +kernel
theorem dX10_run_1 : decode mX10_run.2.1 1 = .ok (.iconst 0, 1) := by decide +kernel
theorem dX10_run_2 : decode mX10_run.2.1 2 = .ok (.iconst 5, 1) := by decide +kernel
theorem dX10_run_3 : decode mX10_run.2.1 3 = .ok (.invokestatic 99, 3) := by decide +kernel
theorem dX10_run_6 : decode mX10_run.2.1 6 = .ok (.ifCond .ne 10, 3) := by decide +kernel
theorem dX10_run_9 : decode mX10_run.2.1 9 = .ok (.aload_n 0, 1) := by decide +kernel
theorem dX10_run_10 : decode mX10_run.2.1 10 = .ok (.bipush (-2), 2) := by decide +kernel
theorem dX10_run_12 : decode mX10_run.2.1 12 = .ok (.invokevirtual 156, 3) := by decide +kernel
theorem dX10_run_15 : decode mX10_run.2.1 15 = .ok (.ireturn, 1) := by decide +kernel
theorem dX10_run_16 : decode mX10_run.2.1 16 = .ok (.aload_n 0, 1) := by decide +kernel
theorem dX10_run_17 : decode mX10_run.2.1 17 = .ok (.invokevirtual 273, 3) := by decide +kernel
theorem dX10_run_20 : decode mX10_run.2.1 20 = .ok (.aload_n 0, 1) := by decide +kernel
theorem dX10_run_21 : decode mX10_run.2.1 21 = .ok (.iload_n 1, 1) := by decide +kernel
theorem dX10_run_22 : decode mX10_run.2.1 22 = .ok (.invokevirtual 276, 3) := by decide +kernel
theorem dX10_run_25 : decode mX10_run.2.1 25 = .ok (.ireturn, 1) := by decide +kernel
theorem dX10_ranOf_0 : decode mX10_ranOf.2.1 0 = .ok (.iload_n 2, 1) := by decide +kernel
theorem dX10_ranOf_1 : decode mX10_ranOf.2.1 1 = .ok (.ifCond .ne 12, 3) := by decide +kernel
theorem dX10_ranOf_4 : decode mX10_ranOf.2.1 4 = .ok (.aload_n 0, 1) := by decide +kernel
theorem dX10_ranOf_5 : decode mX10_ranOf.2.1 5 = .ok (.getfield 76, 3) := by decide +kernel
theorem dX10_ranOf_8 : decode mX10_ranOf.2.1 8 = .ok (.iload_n 1, 1) := by decide +kernel
theorem dX10_ranOf_9 : decode mX10_ranOf.2.1 9 = .ok (.iaload, 1) := by decide +kernel
theorem dX10_ranOf_10 : decode mX10_ranOf.2.1 10 = .ok (.goto 23, 3) := by decide +kernel
theorem dX10_ranOf_13 : decode mX10_ranOf.2.1 13 = .ok (.iload_n 2, 1) := by decide +kernel
theorem dX10_ranOf_14 : decode mX10_ranOf.2.1 14 = .ok (.iconst 1, 1) := by decide +kernel
theorem dX10_ranOf_15 : decode mX10_ranOf.2.1 15 = .ok (.if_icmp .ne 12, 3) := by decide +kernel
theorem dX10_ranOf_18 : decode mX10_ranOf.2.1 18 = .ok (.aload_n 0, 1) := by decide +kernel
theorem dX10_ranOf_19 : decode mX10_ranOf.2.1 19 = .ok (.getfield 79, 3) := by decide +kernel
theorem dX10_ranOf_22 : decode mX10_ranOf.2.1 22 = .ok (.iload_n 1, 1) := by decide +kernel
theorem dX10_ranOf_23 : decode mX10_ranOf.2.1 23 = .ok (.iaload, 1) := by decide +kernel
theorem dX10_ranOf_24 : decode mX10_ranOf.2.1 24 = .ok (.goto 9, 3) := by decide +kernel
theorem dX10_ranOf_27 : decode mX10_ranOf.2.1 27 = .ok (.aload_n 0, 1) := by decide +kernel
theorem dX10_ranOf_28 : decode mX10_ranOf.2.1 28 = .ok (.getfield 82, 3) := by decide +kernel
theorem dX10_ranOf_31 : decode mX10_ranOf.2.1 31 = .ok (.iload_n 1, 1) := by decide +kernel
theorem dX10_ranOf_32 : decode mX10_ranOf.2.1 32 = .ok (.iaload, 1) := by decide +kernel
theorem dX10_ranOf_33 : decode mX10_ranOf.2.1 33 = .ok (.ireturn, 1) := by decide +kernel
theorem dX10_ran_0 : decode mX10_ran.2.1 0 = .ok (.aload_n 0, 1) := by decide +kernel
theorem dX10_ran_1 : decode mX10_ran.2.1 1 = .ok (.invokevirtual 196, 3) := by decide +kernel
theorem dX10_ran_4 : decode mX10_ran.2.1 4 = .ok (.iload_n 1, 1) := by decide +kernel
theorem dX10_ran_5 : decode mX10_ran.2.1 5 = .ok (.iconst 0, 1) := by decide +kernel
theorem dX10_ran_6 : decode mX10_ran.2.1 6 = .ok (.aload_n 0, 1) := by decide +kernel
theorem dX10_ran_7 : decode mX10_ran.2.1 7 = .ok (.getfield 175, 3) := by decide +kernel
theorem dX10_ran_10 : decode mX10_ran.2.1 10 = .ok (.iconst 1, 1) := by decide +kernel
theorem dX10_ran_11 : decode mX10_ran.2.1 11 = .ok (.isub, 1) := by decide +kernel
theorem dX10_ran_12 : decode mX10_ran.2.1 12 = .ok (.invokestatic 99, 3) := by decide +kernel
theorem dX10_ran_15 : decode mX10_ran.2.1 15 = .ok (.ifCond .eq 12, 3) := by decide +kernel
theorem dX10_ran_18 : decode mX10_ran.2.1 18 = .ok (.iload_n 2, 1) := by decide +kernel
theorem dX10_ran_19 : decode mX10_ran.2.1 19 = .ok (.iconst 0, 1) := by decide +kernel
theorem dX10_ran_20 : decode mX10_ran.2.1 20 = .ok (.iconst 2, 1) := by decide +kernel
theorem dX10_ran_21 : decode mX10_ran.2.1 21 = .ok (.invokestatic 99, 3) := by decide +kernel
theorem dX10_ran_24 : decode mX10_ran.2.1 24 = .ok (.ifCond .ne 10, 3) := by decide +kernel
theorem dX10_ran_27 : decode mX10_ran.2.1 27 = .ok (.aload_n 0, 1) := by decide +kernel
theorem dX10_ran_28 : decode mX10_ran.2.1 28 = .ok (.bipush (-2), 2) := by decide +kernel
theorem dX10_ran_30 : decode mX10_ran.2.1 30 = .ok (.invokevirtual 156, 3) := by decide +kernel
theorem dX10_ran_33 : decode mX10_ran.2.1 33 = .ok (.ireturn, 1) := by decide +kernel
theorem dX10_ran_34 : decode mX10_ran.2.1 34 = .ok (.aload_n 0, 1) := by decide +kernel
theorem dX10_ran_35 : decode mX10_ran.2.1 35 = .ok (.invokevirtual 273, 3) := by decide +kernel
theorem dX10_ran_38 : decode mX10_ran.2.1 38 = .ok (.aload_n 0, 1) := by decide +kernel
theorem dX10_ran_39 : decode mX10_ran.2.1 39 = .ok (.iload_n 1, 1) := by decide +kernel
theorem dX10_ran_40 : decode mX10_ran.2.1 40 = .ok (.iload_n 2, 1) := by decide +kernel
theorem dX10_ran_41 : decode mX10_ran.2.1 41 = .ok (.invokevirtual 279, 3) := by decide +kernel
theorem dX10_ran_44 : decode mX10_ran.2.1 44 = .ok (.ireturn, 1) := by decide +kernel
theorem dX10_heldNow_0 : decode mX10_heldNow.2.1 0 = .ok (.aload_n 0, 1) := by decide +kernel
theorem dX10_heldNow_1 : decode mX10_heldNow.2.1 1 = .ok (.getfield 239, 3) := by decide +kernel
theorem dX10_heldNow_4 : decode mX10_heldNow.2.1 4 = .ok (.iconst (-1), 1) := by decide +kernel
theorem dX10_heldNow_5 : decode mX10_heldNow.2.1 5 = .ok (.if_icmp .ne 7, 3) := by decide +kernel
theorem dX10_heldNow_8 : decode mX10_heldNow.2.1 8 = .ok (.iconst (-1), 1) := by decide +kernel
theorem dX10_heldNow_9 : decode mX10_heldNow.2.1 9 = .ok (.goto 12, 3) := by decide +kernel
theorem dX10_heldNow_12 : decode mX10_heldNow.2.1 12 = .ok (.aload_n 0, 1) := by decide +kernel
theorem dX10_heldNow_13 : decode mX10_heldNow.2.1 13 = .ok (.getfield 43, 3) := by decide +kernel
theorem dX10_heldNow_16 : decode mX10_heldNow.2.1 16 = .ok (.aload_n 0, 1) := by decide +kernel
theorem dX10_heldNow_17 : decode mX10_heldNow.2.1 17 = .ok (.getfield 239, 3) := by decide +kernel
theorem dX10_heldNow_20 : decode mX10_heldNow.2.1 20 = .ok (.iaload, 1) := by decide +kernel
theorem dX10_heldNow_21 : decode mX10_heldNow.2.1 21 = .ok (.ireturn, 1) := by decide +kernel
theorem dX10_held_0 : decode mX10_held.2.1 0 = .ok (.aload_n 0, 1) := by decide +kernel
theorem dX10_held_1 : decode mX10_held.2.1 1 = .ok (.invokevirtual 273, 3) := by decide +kernel
theorem dX10_held_4 : decode mX10_held.2.1 4 = .ok (.aload_n 0, 1) := by decide +kernel
theorem dX10_held_5 : decode mX10_held.2.1 5 = .ok (.invokevirtual 282, 3) := by decide +kernel
theorem dX10_held_8 : decode mX10_held.2.1 8 = .ok (.ireturn, 1) := by decide +kernel
theorem dX10_back_0 : decode mX10_back.2.1 0 = .ok (.aload_n 0, 1) := by decide +kernel
theorem dX10_back_1 : decode mX10_back.2.1 1 = .ok (.getfield 85, 3) := by decide +kernel
theorem dX10_back_4 : decode mX10_back.2.1 4 = .ok (.ifCond .ne 10, 3) := by decide +kernel
theorem dX10_back_7 : decode mX10_back.2.1 7 = .ok (.aload_n 0, 1) := by decide +kernel
theorem dX10_back_8 : decode mX10_back.2.1 8 = .ok (.bipush (-3), 2) := by decide +kernel
theorem dX10_back_10 : decode mX10_back.2.1 10 = .ok (.invokevirtual 156, 3) := by decide +kernel
theorem dX10_back_13 : decode mX10_back.2.1 13 = .ok (.ireturn, 1) := by decide +kernel
theorem dX10_back_14 : decode mX10_back.2.1 14 = .ok (.aload_n 0, 1) := by decide +kernel
theorem dX10_back_15 : decode mX10_back.2.1 15 = .ok (.dup, 1) := by decide +kernel
theorem dX10_back_16 : decode mX10_back.2.1 16 = .ok (.getfield 85, 3) := by decide +kernel
theorem dX10_back_19 : decode mX10_back.2.1 19 = .ok (.iconst 1, 1) := by decide +kernel
theorem dX10_back_20 : decode mX10_back.2.1 20 = .ok (.isub, 1) := by decide +kernel
theorem dX10_back_21 : decode mX10_back.2.1 21 = .ok (.putfield 85, 3) := by decide +kernel
theorem dX10_back_24 : decode mX10_back.2.1 24 = .ok (.aload_n 0, 1) := by decide +kernel
theorem dX10_back_25 : decode mX10_back.2.1 25 = .ok (.getfield 16, 3) := by decide +kernel
theorem dX10_back_28 : decode mX10_back.2.1 28 = .ok (.sipush 133, 3) := by decide +kernel
theorem dX10_back_31 : decode mX10_back.2.1 31 = .ok (.aload_n 0, 1) := by decide +kernel
theorem dX10_back_32 : decode mX10_back.2.1 32 = .ok (.getfield 85, 3) := by decide +kernel
theorem dX10_back_35 : decode mX10_back.2.1 35 = .ok (.imul, 1) := by decide +kernel
theorem dX10_back_36 : decode mX10_back.2.1 36 = .ok (.aload_n 0, 1) := by decide +kernel
theorem dX10_back_37 : decode mX10_back.2.1 37 = .ok (.getfield 7, 3) := by decide +kernel
theorem dX10_back_40 : decode mX10_back.2.1 40 = .ok (.iconst 0, 1) := by decide +kernel
theorem dX10_back_41 : decode mX10_back.2.1 41 = .ok (.invokestatic 89, 3) := by decide +kernel
theorem dX10_back_44 : decode mX10_back.2.1 44 = .ok (.aload_n 0, 1) := by decide +kernel
theorem dX10_back_45 : decode mX10_back.2.1 45 = .ok (.getfield 85, 3) := by decide +kernel
theorem dX10_back_48 : decode mX10_back.2.1 48 = .ok (.ireturn, 1) := by decide +kernel
theorem dX10_toldOf_0 : decode mX10_toldOf.2.1 0 = .ok (.iload_n 1, 1) := by decide +kernel
theorem dX10_toldOf_1 : decode mX10_toldOf.2.1 1 = .ok (.iconst 3, 1) := by decide +kernel
theorem dX10_toldOf_2 : decode mX10_toldOf.2.1 2 = .ok (.if_icmp .ge 12, 3) := by decide +kernel
theorem dX10_toldOf_5 : decode mX10_toldOf.2.1 5 = .ok (.aload_n 0, 1) := by decide +kernel
theorem dX10_toldOf_6 : decode mX10_toldOf.2.1 6 = .ok (.getfield 19, 3) := by decide +kernel
theorem dX10_toldOf_9 : decode mX10_toldOf.2.1 9 = .ok (.iload_n 1, 1) := by decide +kernel
theorem dX10_toldOf_10 : decode mX10_toldOf.2.1 10 = .ok (.iaload, 1) := by decide +kernel
theorem dX10_toldOf_11 : decode mX10_toldOf.2.1 11 = .ok (.goto 45, 3) := by decide +kernel
theorem dX10_toldOf_14 : decode mX10_toldOf.2.1 14 = .ok (.iload_n 1, 1) := by decide +kernel
theorem dX10_toldOf_15 : decode mX10_toldOf.2.1 15 = .ok (.iconst 3, 1) := by decide +kernel
theorem dX10_toldOf_16 : decode mX10_toldOf.2.1 16 = .ok (.if_icmp .ne 10, 3) := by decide +kernel
theorem dX10_toldOf_19 : decode mX10_toldOf.2.1 19 = .ok (.aload_n 0, 1) := by decide +kernel
theorem dX10_toldOf_20 : decode mX10_toldOf.2.1 20 = .ok (.getfield 96, 3) := by decide +kernel
theorem dX10_toldOf_23 : decode mX10_toldOf.2.1 23 = .ok (.goto 33, 3) := by decide +kernel
theorem dX10_toldOf_26 : decode mX10_toldOf.2.1 26 = .ok (.iload_n 1, 1) := by decide +kernel
theorem dX10_toldOf_27 : decode mX10_toldOf.2.1 27 = .ok (.iconst 4, 1) := by decide +kernel
theorem dX10_toldOf_28 : decode mX10_toldOf.2.1 28 = .ok (.if_icmp .ne 12, 3) := by decide +kernel
theorem dX10_toldOf_31 : decode mX10_toldOf.2.1 31 = .ok (.aload_n 0, 1) := by decide +kernel
theorem dX10_toldOf_32 : decode mX10_toldOf.2.1 32 = .ok (.getfield 7, 3) := by decide +kernel
theorem dX10_toldOf_35 : decode mX10_toldOf.2.1 35 = .ok (.iconst 0, 1) := by decide +kernel
theorem dX10_toldOf_36 : decode mX10_toldOf.2.1 36 = .ok (.iaload, 1) := by decide +kernel
theorem dX10_toldOf_37 : decode mX10_toldOf.2.1 37 = .ok (.goto 19, 3) := by decide +kernel
theorem dX10_toldOf_40 : decode mX10_toldOf.2.1 40 = .ok (.iload_n 1, 1) := by decide +kernel
theorem dX10_toldOf_41 : decode mX10_toldOf.2.1 41 = .ok (.iconst 5, 1) := by decide +kernel
theorem dX10_toldOf_42 : decode mX10_toldOf.2.1 42 = .ok (.if_icmp .ne 10, 3) := by decide +kernel
theorem dX10_toldOf_45 : decode mX10_toldOf.2.1 45 = .ok (.aload_n 0, 1) := by decide +kernel
theorem dX10_toldOf_46 : decode mX10_toldOf.2.1 46 = .ok (.getfield 175, 3) := by decide +kernel
theorem dX10_toldOf_49 : decode mX10_toldOf.2.1 49 = .ok (.goto 7, 3) := by decide +kernel
theorem dX10_toldOf_52 : decode mX10_toldOf.2.1 52 = .ok (.aload_n 0, 1) := by decide +kernel
theorem dX10_toldOf_53 : decode mX10_toldOf.2.1 53 = .ok (.getfield 85, 3) := by decide +kernel
theorem dX10_toldOf_56 : decode mX10_toldOf.2.1 56 = .ok (.ireturn, 1) := by decide +kernel
theorem dX10_told_0 : decode mX10_told.2.1 0 = .ok (.aload_n 0, 1) := by decide +kernel
theorem dX10_told_1 : decode mX10_told.2.1 1 = .ok (.invokevirtual 196, 3) := by decide +kernel
theorem dX10_told_4 : decode mX10_told.2.1 4 = .ok (.iload_n 1, 1) := by decide +kernel
theorem dX10_told_5 : decode mX10_told.2.1 5 = .ok (.iconst 0, 1) := by decide +kernel
theorem dX10_told_6 : decode mX10_told.2.1 6 = .ok (.bipush 6, 2) := by decide +kernel
theorem dX10_told_8 : decode mX10_told.2.1 8 = .ok (.invokestatic 99, 3) := by decide +kernel
theorem dX10_told_11 : decode mX10_told.2.1 11 = .ok (.ifCond .eq 11, 3) := by decide +kernel
theorem dX10_told_14 : decode mX10_told.2.1 14 = .ok (.aload_n 0, 1) := by decide +kernel
theorem dX10_told_15 : decode mX10_told.2.1 15 = .ok (.iload_n 1, 1) := by decide +kernel
theorem dX10_told_16 : decode mX10_told.2.1 16 = .ok (.invokevirtual 285, 3) := by decide +kernel
theorem dX10_told_19 : decode mX10_told.2.1 19 = .ok (.goto 9, 3) := by decide +kernel
theorem dX10_told_22 : decode mX10_told.2.1 22 = .ok (.aload_n 0, 1) := by decide +kernel
theorem dX10_told_23 : decode mX10_told.2.1 23 = .ok (.bipush (-2), 2) := by decide +kernel
theorem dX10_told_25 : decode mX10_told.2.1 25 = .ok (.invokevirtual 156, 3) := by decide +kernel
theorem dX10_told_28 : decode mX10_told.2.1 28 = .ok (.ireturn, 1) := by decide +kernel
theorem dX10_digest_0 : decode mX10_digest.2.1 0 = .ok (.aload_n 0, 1) := by decide +kernel
theorem dX10_digest_1 : decode mX10_digest.2.1 1 = .ok (.invokevirtual 273, 3) := by decide +kernel
theorem dX10_digest_4 : decode mX10_digest.2.1 4 = .ok (.ldc2_w 288, 3) := by decide +kernel
theorem dX10_digest_7 : decode mX10_digest.2.1 7 = .ok (.lstore_n 1, 1) := by decide +kernel
theorem dX10_digest_8 : decode mX10_digest.2.1 8 = .ok (.iconst 0, 1) := by decide +kernel
theorem dX10_digest_9 : decode mX10_digest.2.1 9 = .ok (.istore_n 3, 1) := by decide +kernel
theorem dX10_digest_10 : decode mX10_digest.2.1 10 = .ok (.iload_n 3, 1) := by decide +kernel
theorem dX10_digest_11 : decode mX10_digest.2.1 11 = .ok (.bipush 7, 2) := by decide +kernel
theorem dX10_digest_13 : decode mX10_digest.2.1 13 = .ok (.if_icmp .ge 22, 3) := by decide +kernel
theorem dX10_digest_16 : decode mX10_digest.2.1 16 = .ok (.ldc2_w 290, 3) := by decide +kernel
theorem dX10_digest_19 : decode mX10_digest.2.1 19 = .ok (.lload_n 1, 1) := by decide +kernel
theorem dX10_digest_20 : decode mX10_digest.2.1 20 = .ok (.lmul, 1) := by decide +kernel
theorem dX10_digest_21 : decode mX10_digest.2.1 21 = .ok (.aload_n 0, 1) := by decide +kernel
theorem dX10_digest_22 : decode mX10_digest.2.1 22 = .ok (.iload_n 3, 1) := by decide +kernel
theorem dX10_digest_23 : decode mX10_digest.2.1 23 = .ok (.invokevirtual 285, 3) := by decide +kernel
theorem dX10_digest_26 : decode mX10_digest.2.1 26 = .ok (.i2l, 1) := by decide +kernel
theorem dX10_digest_27 : decode mX10_digest.2.1 27 = .ok (.ladd, 1) := by decide +kernel
theorem dX10_digest_28 : decode mX10_digest.2.1 28 = .ok (.lstore_n 1, 1) := by decide +kernel
theorem dX10_digest_29 : decode mX10_digest.2.1 29 = .ok (.iinc 3 1, 3) := by decide +kernel
theorem dX10_digest_32 : decode mX10_digest.2.1 32 = .ok (.goto (-22), 3) := by decide +kernel
theorem dX10_digest_35 : decode mX10_digest.2.1 35 = .ok (.iconst 0, 1) := by decide +kernel
theorem dX10_digest_36 : decode mX10_digest.2.1 36 = .ok (.istore_n 3, 1) := by decide +kernel
theorem dX10_digest_37 : decode mX10_digest.2.1 37 = .ok (.iload_n 3, 1) := by decide +kernel
theorem dX10_digest_38 : decode mX10_digest.2.1 38 = .ok (.aload_n 0, 1) := by decide +kernel
theorem dX10_digest_39 : decode mX10_digest.2.1 39 = .ok (.getfield 7, 3) := by decide +kernel
theorem dX10_digest_42 : decode mX10_digest.2.1 42 = .ok (.iconst 0, 1) := by decide +kernel
theorem dX10_digest_43 : decode mX10_digest.2.1 43 = .ok (.iaload, 1) := by decide +kernel
theorem dX10_digest_44 : decode mX10_digest.2.1 44 = .ok (.if_icmp .ge 115, 3) := by decide +kernel
theorem dX10_digest_47 : decode mX10_digest.2.1 47 = .ok (.iconst 0, 1) := by decide +kernel
theorem dX10_digest_48 : decode mX10_digest.2.1 48 = .ok (.istore 4, 2) := by decide +kernel
theorem dX10_digest_50 : decode mX10_digest.2.1 50 = .ok (.iload 4, 2) := by decide +kernel
theorem dX10_digest_52 : decode mX10_digest.2.1 52 = .ok (.iconst 5, 1) := by decide +kernel
theorem dX10_digest_53 : decode mX10_digest.2.1 53 = .ok (.if_icmp .ge 24, 3) := by decide +kernel
theorem dX10_digest_56 : decode mX10_digest.2.1 56 = .ok (.ldc2_w 290, 3) := by decide +kernel
theorem dX10_digest_59 : decode mX10_digest.2.1 59 = .ok (.lload_n 1, 1) := by decide +kernel
theorem dX10_digest_60 : decode mX10_digest.2.1 60 = .ok (.lmul, 1) := by decide +kernel
theorem dX10_digest_61 : decode mX10_digest.2.1 61 = .ok (.aload_n 0, 1) := by decide +kernel
theorem dX10_digest_62 : decode mX10_digest.2.1 62 = .ok (.iload_n 3, 1) := by decide +kernel
theorem dX10_digest_63 : decode mX10_digest.2.1 63 = .ok (.iload 4, 2) := by decide +kernel
theorem dX10_digest_65 : decode mX10_digest.2.1 65 = .ok (.invokevirtual 217, 3) := by decide +kernel
theorem dX10_digest_68 : decode mX10_digest.2.1 68 = .ok (.i2l, 1) := by decide +kernel
theorem dX10_digest_69 : decode mX10_digest.2.1 69 = .ok (.ladd, 1) := by decide +kernel
theorem dX10_digest_70 : decode mX10_digest.2.1 70 = .ok (.lstore_n 1, 1) := by decide +kernel
theorem dX10_digest_71 : decode mX10_digest.2.1 71 = .ok (.iinc 4 1, 3) := by decide +kernel
theorem dX10_digest_74 : decode mX10_digest.2.1 74 = .ok (.goto (-24), 3) := by decide +kernel
theorem dX10_digest_77 : decode mX10_digest.2.1 77 = .ok (.iconst 0, 1) := by decide +kernel
theorem dX10_digest_78 : decode mX10_digest.2.1 78 = .ok (.istore 4, 2) := by decide +kernel
theorem dX10_digest_80 : decode mX10_digest.2.1 80 = .ok (.iload 4, 2) := by decide +kernel
theorem dX10_digest_82 : decode mX10_digest.2.1 82 = .ok (.iconst 4, 1) := by decide +kernel
theorem dX10_digest_83 : decode mX10_digest.2.1 83 = .ok (.if_icmp .ge 28, 3) := by decide +kernel
theorem dX10_digest_86 : decode mX10_digest.2.1 86 = .ok (.ldc2_w 290, 3) := by decide +kernel
theorem dX10_digest_89 : decode mX10_digest.2.1 89 = .ok (.lload_n 1, 1) := by decide +kernel
theorem dX10_digest_90 : decode mX10_digest.2.1 90 = .ok (.lmul, 1) := by decide +kernel
theorem dX10_digest_91 : decode mX10_digest.2.1 91 = .ok (.aload_n 0, 1) := by decide +kernel
theorem dX10_digest_92 : decode mX10_digest.2.1 92 = .ok (.getfield 40, 3) := by decide +kernel
theorem dX10_digest_95 : decode mX10_digest.2.1 95 = .ok (.iconst 4, 1) := by decide +kernel
theorem dX10_digest_96 : decode mX10_digest.2.1 96 = .ok (.iload_n 3, 1) := by decide +kernel
theorem dX10_digest_97 : decode mX10_digest.2.1 97 = .ok (.imul, 1) := by decide +kernel
theorem dX10_digest_98 : decode mX10_digest.2.1 98 = .ok (.iload 4, 2) := by decide +kernel
theorem dX10_digest_100 : decode mX10_digest.2.1 100 = .ok (.iadd, 1) := by decide +kernel
theorem dX10_digest_101 : decode mX10_digest.2.1 101 = .ok (.iaload, 1) := by decide +kernel
theorem dX10_digest_102 : decode mX10_digest.2.1 102 = .ok (.i2l, 1) := by decide +kernel
theorem dX10_digest_103 : decode mX10_digest.2.1 103 = .ok (.ladd, 1) := by decide +kernel
theorem dX10_digest_104 : decode mX10_digest.2.1 104 = .ok (.lstore_n 1, 1) := by decide +kernel
theorem dX10_digest_105 : decode mX10_digest.2.1 105 = .ok (.iinc 4 1, 3) := by decide +kernel
theorem dX10_digest_108 : decode mX10_digest.2.1 108 = .ok (.goto (-28), 3) := by decide +kernel
theorem dX10_digest_111 : decode mX10_digest.2.1 111 = .ok (.iconst 0, 1) := by decide +kernel
theorem dX10_digest_112 : decode mX10_digest.2.1 112 = .ok (.istore 4, 2) := by decide +kernel
theorem dX10_digest_114 : decode mX10_digest.2.1 114 = .ok (.iload 4, 2) := by decide +kernel
theorem dX10_digest_116 : decode mX10_digest.2.1 116 = .ok (.iconst 5, 1) := by decide +kernel
theorem dX10_digest_117 : decode mX10_digest.2.1 117 = .ok (.aload_n 0, 1) := by decide +kernel
theorem dX10_digest_118 : decode mX10_digest.2.1 118 = .ok (.iload_n 3, 1) := by decide +kernel
theorem dX10_digest_119 : decode mX10_digest.2.1 119 = .ok (.invokevirtual 168, 3) := by decide +kernel
theorem dX10_digest_122 : decode mX10_digest.2.1 122 = .ok (.imul, 1) := by decide +kernel
theorem dX10_digest_123 : decode mX10_digest.2.1 123 = .ok (.if_icmp .ge 30, 3) := by decide +kernel
theorem dX10_digest_126 : decode mX10_digest.2.1 126 = .ok (.ldc2_w 290, 3) := by decide +kernel
theorem dX10_digest_129 : decode mX10_digest.2.1 129 = .ok (.lload_n 1, 1) := by decide +kernel
theorem dX10_digest_130 : decode mX10_digest.2.1 130 = .ok (.lmul, 1) := by decide +kernel
theorem dX10_digest_131 : decode mX10_digest.2.1 131 = .ok (.aload_n 0, 1) := by decide +kernel
theorem dX10_digest_132 : decode mX10_digest.2.1 132 = .ok (.iload_n 3, 1) := by decide +kernel
theorem dX10_digest_133 : decode mX10_digest.2.1 133 = .ok (.iload 4, 2) := by decide +kernel
theorem dX10_digest_135 : decode mX10_digest.2.1 135 = .ok (.iconst 5, 1) := by decide +kernel
theorem dX10_digest_136 : decode mX10_digest.2.1 136 = .ok (.idiv, 1) := by decide +kernel
theorem dX10_digest_137 : decode mX10_digest.2.1 137 = .ok (.iload 4, 2) := by decide +kernel
theorem dX10_digest_139 : decode mX10_digest.2.1 139 = .ok (.iconst 5, 1) := by decide +kernel
theorem dX10_digest_140 : decode mX10_digest.2.1 140 = .ok (.irem, 1) := by decide +kernel
theorem dX10_digest_141 : decode mX10_digest.2.1 141 = .ok (.invokevirtual 221, 3) := by decide +kernel
theorem dX10_digest_144 : decode mX10_digest.2.1 144 = .ok (.i2l, 1) := by decide +kernel
theorem dX10_digest_145 : decode mX10_digest.2.1 145 = .ok (.ladd, 1) := by decide +kernel
theorem dX10_digest_146 : decode mX10_digest.2.1 146 = .ok (.lstore_n 1, 1) := by decide +kernel
theorem dX10_digest_147 : decode mX10_digest.2.1 147 = .ok (.iinc 4 1, 3) := by decide +kernel
theorem dX10_digest_150 : decode mX10_digest.2.1 150 = .ok (.goto (-36), 3) := by decide +kernel
theorem dX10_digest_153 : decode mX10_digest.2.1 153 = .ok (.iinc 3 1, 3) := by decide +kernel
theorem dX10_digest_156 : decode mX10_digest.2.1 156 = .ok (.goto (-119), 3) := by decide +kernel
theorem dX10_digest_159 : decode mX10_digest.2.1 159 = .ok (.iconst 0, 1) := by decide +kernel
theorem dX10_digest_160 : decode mX10_digest.2.1 160 = .ok (.istore_n 3, 1) := by decide +kernel
theorem dX10_digest_161 : decode mX10_digest.2.1 161 = .ok (.iload_n 3, 1) := by decide +kernel
theorem dX10_digest_162 : decode mX10_digest.2.1 162 = .ok (.aload_n 0, 1) := by decide +kernel
theorem dX10_digest_163 : decode mX10_digest.2.1 163 = .ok (.getfield 175, 3) := by decide +kernel
theorem dX10_digest_166 : decode mX10_digest.2.1 166 = .ok (.if_icmp .ge 69, 3) := by decide +kernel
theorem dX10_digest_169 : decode mX10_digest.2.1 169 = .ok (.iconst 0, 1) := by decide +kernel
theorem dX10_digest_170 : decode mX10_digest.2.1 170 = .ok (.istore 4, 2) := by decide +kernel
theorem dX10_digest_172 : decode mX10_digest.2.1 172 = .ok (.iload 4, 2) := by decide +kernel
theorem dX10_digest_174 : decode mX10_digest.2.1 174 = .ok (.iconst 4, 1) := by decide +kernel
theorem dX10_digest_175 : decode mX10_digest.2.1 175 = .ok (.if_icmp .ge 24, 3) := by decide +kernel
theorem dX10_digest_178 : decode mX10_digest.2.1 178 = .ok (.ldc2_w 290, 3) := by decide +kernel
theorem dX10_digest_181 : decode mX10_digest.2.1 181 = .ok (.lload_n 1, 1) := by decide +kernel
theorem dX10_digest_182 : decode mX10_digest.2.1 182 = .ok (.lmul, 1) := by decide +kernel
theorem dX10_digest_183 : decode mX10_digest.2.1 183 = .ok (.aload_n 0, 1) := by decide +kernel
theorem dX10_digest_184 : decode mX10_digest.2.1 184 = .ok (.iload_n 3, 1) := by decide +kernel
theorem dX10_digest_185 : decode mX10_digest.2.1 185 = .ok (.iload 4, 2) := by decide +kernel
theorem dX10_digest_187 : decode mX10_digest.2.1 187 = .ok (.invokevirtual 224, 3) := by decide +kernel
theorem dX10_digest_190 : decode mX10_digest.2.1 190 = .ok (.i2l, 1) := by decide +kernel
theorem dX10_digest_191 : decode mX10_digest.2.1 191 = .ok (.ladd, 1) := by decide +kernel
theorem dX10_digest_192 : decode mX10_digest.2.1 192 = .ok (.lstore_n 1, 1) := by decide +kernel
theorem dX10_digest_193 : decode mX10_digest.2.1 193 = .ok (.iinc 4 1, 3) := by decide +kernel
theorem dX10_digest_196 : decode mX10_digest.2.1 196 = .ok (.goto (-24), 3) := by decide +kernel
theorem dX10_digest_199 : decode mX10_digest.2.1 199 = .ok (.iconst 0, 1) := by decide +kernel
theorem dX10_digest_200 : decode mX10_digest.2.1 200 = .ok (.istore 4, 2) := by decide +kernel
theorem dX10_digest_202 : decode mX10_digest.2.1 202 = .ok (.iload 4, 2) := by decide +kernel
theorem dX10_digest_204 : decode mX10_digest.2.1 204 = .ok (.iconst 3, 1) := by decide +kernel
theorem dX10_digest_205 : decode mX10_digest.2.1 205 = .ok (.if_icmp .ge 24, 3) := by decide +kernel
theorem dX10_digest_208 : decode mX10_digest.2.1 208 = .ok (.ldc2_w 290, 3) := by decide +kernel
theorem dX10_digest_211 : decode mX10_digest.2.1 211 = .ok (.lload_n 1, 1) := by decide +kernel
theorem dX10_digest_212 : decode mX10_digest.2.1 212 = .ok (.lmul, 1) := by decide +kernel
theorem dX10_digest_213 : decode mX10_digest.2.1 213 = .ok (.aload_n 0, 1) := by decide +kernel
theorem dX10_digest_214 : decode mX10_digest.2.1 214 = .ok (.iload_n 3, 1) := by decide +kernel
theorem dX10_digest_215 : decode mX10_digest.2.1 215 = .ok (.iload 4, 2) := by decide +kernel
theorem dX10_digest_217 : decode mX10_digest.2.1 217 = .ok (.invokevirtual 279, 3) := by decide +kernel
theorem dX10_digest_220 : decode mX10_digest.2.1 220 = .ok (.i2l, 1) := by decide +kernel
theorem dX10_digest_221 : decode mX10_digest.2.1 221 = .ok (.ladd, 1) := by decide +kernel
theorem dX10_digest_222 : decode mX10_digest.2.1 222 = .ok (.lstore_n 1, 1) := by decide +kernel
theorem dX10_digest_223 : decode mX10_digest.2.1 223 = .ok (.iinc 4 1, 3) := by decide +kernel
theorem dX10_digest_226 : decode mX10_digest.2.1 226 = .ok (.goto (-24), 3) := by decide +kernel
theorem dX10_digest_229 : decode mX10_digest.2.1 229 = .ok (.iinc 3 1, 3) := by decide +kernel
theorem dX10_digest_232 : decode mX10_digest.2.1 232 = .ok (.goto (-71), 3) := by decide +kernel
theorem dX10_digest_235 : decode mX10_digest.2.1 235 = .ok (.ldc2_w 290, 3) := by decide +kernel
theorem dX10_digest_238 : decode mX10_digest.2.1 238 = .ok (.lload_n 1, 1) := by decide +kernel
theorem dX10_digest_239 : decode mX10_digest.2.1 239 = .ok (.lmul, 1) := by decide +kernel
theorem dX10_digest_240 : decode mX10_digest.2.1 240 = .ok (.aload_n 0, 1) := by decide +kernel
theorem dX10_digest_241 : decode mX10_digest.2.1 241 = .ok (.getfield 40, 3) := by decide +kernel
theorem dX10_digest_244 : decode mX10_digest.2.1 244 = .ok (.bipush 16, 2) := by decide +kernel
theorem dX10_digest_246 : decode mX10_digest.2.1 246 = .ok (.iaload, 1) := by decide +kernel
theorem dX10_digest_247 : decode mX10_digest.2.1 247 = .ok (.i2l, 1) := by decide +kernel
theorem dX10_digest_248 : decode mX10_digest.2.1 248 = .ok (.ladd, 1) := by decide +kernel
theorem dX10_digest_249 : decode mX10_digest.2.1 249 = .ok (.lstore_n 1, 1) := by decide +kernel
theorem dX10_digest_250 : decode mX10_digest.2.1 250 = .ok (.iconst 0, 1) := by decide +kernel
theorem dX10_digest_251 : decode mX10_digest.2.1 251 = .ok (.istore_n 3, 1) := by decide +kernel
theorem dX10_digest_252 : decode mX10_digest.2.1 252 = .ok (.iload_n 3, 1) := by decide +kernel
theorem dX10_digest_253 : decode mX10_digest.2.1 253 = .ok (.bipush 6, 2) := by decide +kernel
theorem dX10_digest_255 : decode mX10_digest.2.1 255 = .ok (.if_icmp .ge 22, 3) := by decide +kernel
theorem dX10_digest_258 : decode mX10_digest.2.1 258 = .ok (.ldc2_w 290, 3) := by decide +kernel
theorem dX10_digest_261 : decode mX10_digest.2.1 261 = .ok (.lload_n 1, 1) := by decide +kernel
theorem dX10_digest_262 : decode mX10_digest.2.1 262 = .ok (.lmul, 1) := by decide +kernel
theorem dX10_digest_263 : decode mX10_digest.2.1 263 = .ok (.aload_n 0, 1) := by decide +kernel
theorem dX10_digest_264 : decode mX10_digest.2.1 264 = .ok (.iload_n 3, 1) := by decide +kernel
theorem dX10_digest_265 : decode mX10_digest.2.1 265 = .ok (.invokevirtual 276, 3) := by decide +kernel
theorem dX10_digest_268 : decode mX10_digest.2.1 268 = .ok (.i2l, 1) := by decide +kernel
theorem dX10_digest_269 : decode mX10_digest.2.1 269 = .ok (.ladd, 1) := by decide +kernel
theorem dX10_digest_270 : decode mX10_digest.2.1 270 = .ok (.lstore_n 1, 1) := by decide +kernel
theorem dX10_digest_271 : decode mX10_digest.2.1 271 = .ok (.iinc 3 1, 3) := by decide +kernel
theorem dX10_digest_274 : decode mX10_digest.2.1 274 = .ok (.goto (-22), 3) := by decide +kernel
theorem dX10_digest_277 : decode mX10_digest.2.1 277 = .ok (.ldc2_w 290, 3) := by decide +kernel
theorem dX10_digest_280 : decode mX10_digest.2.1 280 = .ok (.lload_n 1, 1) := by decide +kernel
theorem dX10_digest_281 : decode mX10_digest.2.1 281 = .ok (.lmul, 1) := by decide +kernel
theorem dX10_digest_282 : decode mX10_digest.2.1 282 = .ok (.aload_n 0, 1) := by decide +kernel
theorem dX10_digest_283 : decode mX10_digest.2.1 283 = .ok (.invokevirtual 282, 3) := by decide +kernel
theorem dX10_digest_286 : decode mX10_digest.2.1 286 = .ok (.i2l, 1) := by decide +kernel
theorem dX10_digest_287 : decode mX10_digest.2.1 287 = .ok (.ladd, 1) := by decide +kernel
theorem dX10_digest_288 : decode mX10_digest.2.1 288 = .ok (.lreturn, 1) := by decide +kernel
end
section
/-! ===== the machine layer: an abstract heap of numbered cells over the kit's worlds ===== -/
abbrev Am : Type := va_G × (ClassId × ClassId × ClassId) × Nat × (Nat × Nat × (Nat → Int32)) × ((Nat → Nat) × (Nat → Nat))
def aN (a : Am) : Nat := a.2.2.1
def aA (a : Am) : Nat → Prop := fun q => aN a ≤ q
def aT (a : Am) : List (ClassId × FieldType) := [(a.2.1.1, .int), (a.2.1.2.1, .byte), (a.2.1.2.2, .object RX2)]
abbrev St : Type := List (Nat × Nat) × (Nat → Nat → Option Nat)
abbrev Hp : Type := Nat → Nat → Int32
def rv (a : Am) (o : Nat) : Value := .ref (aN a + o)
def hs (h : Hp) (o : Nat) (f : Nat → Int32) : Hp := fun j => if j = o then f else h j
def gs (g : Nat → Nat → Option Nat) (o : Nat) (f : Nat → Option Nat) : Nat → Nat → Option Nat := fun j => if j = o then f else g j
theorem hs_same {h : Hp} {o : Nat} {f : Nat → Int32} : hs h o f o = f := by simp [hs]
theorem hs_ne {h : Hp} {o j : Nat} {f : Nat → Int32} (hj : j ≠ o) : hs h o f j = h j := by simp [hs, hj]
theorem gs_same {h : Nat → Nat → Option Nat} {o : Nat} {f : Nat → Option Nat} : gs h o f o = f := by simp [gs]
theorem gs_ne {h : Nat → Nat → Option Nat} {o j : Nat} {f : Nat → Option Nat} (hj : j ≠ o) : gs h o f j = h j := by simp [gs, hj]
def fvL (a : Am) (S : St) (h : Hp) (o ci : Nat) : List Value := (fkT.getD ci []).mapIdx (fun k b => if b = true then va_rf ((S.2 o k).map (aN a + ·)) else .int (h o k))
def eOf (a : Am) (S : St) (h : Hp) (o : Nat) (kn : Nat × Nat) : va_E := match kn.1 with
  | 0 => .inl (a.2.1.1, kn.2, .inl (h o))
  | 1 => .inl (a.2.1.2.1, kn.2, .inl (h o))
  | 2 => .inl (a.2.1.2.2, kn.2, .inr (.inr (.inr (.inr (fun k => (S.2 o k).map (aN a + ·))))))
  | c + 3 => .inr (c, fvL a S h o c)
def wsOf (a : Am) (S : St) (h : Hp) : va_W := S.1.mapIdx (fun o kn => (aN a + o, eOf a S h o kn))
theorem ws_get {a : Am} {S : St} {h : Hp} {o : Nat} {kn : Nat × Nat} (ho : S.1[o]? = some kn) : (wsOf a S h)[o]? = some (aN a + o, eOf a S h o kn) := by
  simp [wsOf, List.getElem?_mapIdx, ho]
theorem ws_len {a : Am} {S : St} {h : Hp} : (wsOf a S h).length = S.1.length := by simp [wsOf]
theorem ws_addr {a : Am} {S : St} {h : Hp} {k : Nat} {q : Nat × va_E} (hk : (wsOf a S h)[k]? = some q) : q.1 = aN a + k ∧ k < S.1.length := by
  have hl : k < (wsOf a S h).length := (List.getElem?_eq_some_iff.mp hk).1
  rw [ws_len] at hl
  refine ⟨?_, hl⟩
  have h1 := ws_get (a := a) (h := h) (List.getElem?_eq_getElem hl)
  rw [h1] at hk
  cases hk
  rfl
theorem eOf_congr {a : Am} {S S' : St} {h h' : Hp} {j : Nat} {kn : Nat × Nat} (h1 : h' j = h j) (h2 : S'.2 j = S.2 j) : eOf a S h j kn = eOf a S' h' j kn := by
  unfold eOf fvL
  rw [h1, h2]
theorem ws_D {a : Am} {S : St} {h : Hp} : va_D (aA a) (wsOf a S h) := by
  refine ⟨fun i j p q hi hj hpq => ?_, fun k q hk => ?_⟩
  · have h1 := (ws_addr hi).1
    have h2 := (ws_addr hj).1
    omega
  · have h1 := (ws_addr hk).1
    show aN a ≤ q.1
    omega
theorem ws_set {a : Am} {S S' : St} {h h' : Hp} {o : Nat} {kn : Nat × Nat} {e' : va_E} (hS : S'.1 = S.1) (ho : S.1[o]? = some kn) (he : eOf a S' h' o kn = e') (hh : ∀ j, j ≠ o → h' j = h j ∧ S'.2 j = S.2 j) : (wsOf a S h).set o (aN a + o, e') = wsOf a S' h' := by
  apply List.ext_getElem?
  intro j
  rw [List.getElem?_set]
  by_cases hj : o = j
  · subst hj
    have hl : o < (wsOf a S h).length := by rw [ws_len]; exact (List.getElem?_eq_some_iff.mp ho).1
    rw [if_pos rfl, if_pos hl, ws_get (S := S') (by rw [hS]; exact ho), he]
  · rw [if_neg hj]
    simp only [wsOf, List.getElem?_mapIdx, hS]
    cases S.1[j]? with
    | none => rfl
    | some kn' =>
      obtain ⟨h1, h2⟩ := hh j (fun q => hj q.symm)
      simp only [Option.map_some, Option.some.injEq, Prod.mk.injEq, true_and]
      exact eOf_congr h1 h2
theorem ws_push {a : Am} {S : St} {h h' : Hp} {kn : Nat × Nat} {g' : Nat → Nat → Option Nat} (hh : ∀ j, j < S.1.length → h' j = h j ∧ g' j = S.2 j) : wsOf a (S.1 ++ [kn], g') h' = wsOf a S h ++ [(aN a + S.1.length, eOf a (S.1 ++ [kn], g') h' S.1.length kn)] := by
  apply List.ext_getElem?
  intro j
  by_cases hj : j < S.1.length
  · rw [List.getElem?_append_left (by rw [ws_len]; exact hj)]
    have h1 : (S.1 ++ [kn])[j]? = some S.1[j] := by rw [List.getElem?_append_left hj]; exact List.getElem?_eq_getElem hj
    rw [ws_get (S := (S.1 ++ [kn], g')) h1, ws_get (List.getElem?_eq_getElem hj)]
    obtain ⟨h2, h3⟩ := hh j hj
    simp only [Option.some.injEq, Prod.mk.injEq, true_and]
    exact (eOf_congr h2 h3).symm
  · by_cases hj2 : j = S.1.length
    · subst hj2
      have h1 : (S.1 ++ [kn])[S.1.length]? = some kn := by simp
      rw [ws_get (S := (S.1 ++ [kn], g')) h1, List.getElem?_append_right (by rw [ws_len]; exact Nat.le_refl _), ws_len]
      simp
    · rw [List.getElem?_eq_none (by rw [ws_len]; simp; omega), List.getElem?_eq_none (by simp [ws_len]; omega)]
theorem fv_get {a : Am} {S : St} {h : Hp} {o ci k : Nat} {b : Bool} (hk : (fkT.getD ci [])[k]? = some b) : (fvL a S h o ci)[k]? = some (if b = true then va_rf ((S.2 o k).map (aN a + ·)) else .int (h o k)) := by
  simp only [fvL, List.getElem?_mapIdx, hk, Option.map_some]
theorem fv_len {a : Am} {S : St} {h : Hp} {o ci : Nat} : (fvL a S h o ci).length = (fkT.getD ci []).length := by simp [fvL]
theorem fv_setI {a : Am} {S : St} {h : Hp} {o ci k : Nat} {x : Int32} (hk : (fkT.getD ci [])[k]? = some false) : (fvL a S h o ci).set k (.int x) = fvL a S (hs h o (upd (h o) k x)) o ci := by
  apply List.ext_getElem?
  intro j
  rw [List.getElem?_set]
  by_cases hj : k = j
  · subst hj
    have hl : k < (fvL a S h o ci).length := by rw [fv_len]; exact (List.getElem?_eq_some_iff.mp hk).1
    rw [if_pos rfl, if_pos hl, fv_get hk]
    simp [hs, upd]
  · rw [if_neg hj]
    simp only [fvL, List.getElem?_mapIdx]
    cases (fkT.getD ci [])[j]? with
    | none => rfl
    | some b =>
      have hj2 : ¬ j = k := fun q => hj q.symm
      simp [hs, upd, hj2]
theorem fv_setR {a : Am} {S : St} {h : Hp} {o ci k q : Nat} (hk : (fkT.getD ci [])[k]? = some true) : (fvL a S h o ci).set k (.ref (aN a + q)) = fvL a (S.1, gs S.2 o (va_up (S.2 o) k (some q))) h o ci := by
  apply List.ext_getElem?
  intro j
  rw [List.getElem?_set]
  by_cases hj : k = j
  · subst hj
    have hl : k < (fvL a S h o ci).length := by rw [fv_len]; exact (List.getElem?_eq_some_iff.mp hk).1
    rw [if_pos rfl, if_pos hl, fv_get hk]
    simp [gs, va_up, va_rf]
  · rw [if_neg hj]
    simp only [fvL, List.getElem?_mapIdx]
    cases (fkT.getD ci [])[j]? with
    | none => rfl
    | some b =>
      have hj2 : ¬ j = k := fun q => hj q.symm
      simp [gs, va_up, hj2]
def RepW (a : Am) (S : St) (h : Hp) (H : Heap) : Prop := va_P a.1 vwC (wsOf a S h) H ∧ H.size = aN a + S.1.length
/-- what the machine keeps everywhere: classes and array classes, nest mates, the script, the string constants -/
def Sx (a : Am) (U : State) : Prop := vk_R RX7 56 "new" (a.2.2.2.2.1 0) U ∧ vk_R RX7 62 "lock" (a.2.2.2.2.1 1) U ∧ vk_S 2 [3, 4] [[110, 101, 119], [108, 111, 99, 107]] a.2.2.2.2.1 a.2.2.2.2.2 (aA a) U U.heap ∧ va_Z RJ0 "COMPACT_STRINGS" "Z" (.int 1) (aA a) U U.heap ∧ va_Zq RJ3 "SIOOBE_FORMATTER" "Ljava/util/function/BiFunction;" (aA a) U U.heap
def Px (a : Am) (U : State) : Prop := va_K a.1 vwC (aT a) U ∧ (∀ q ∈ nestL, va_Nw (.methodLinkNest q.1 q.2.1 q.2.2.1 q.2.2.2) U) ∧ va_AO RX2 U ∧ (va_X a.2.2.2.1.1 a.2.2.2.1.2.1 a.2.2.2.1.2.2 U U.heap ∧ a.2.2.2.1.1 < aN a) ∧ aN a ≤ U.heap.size ∧ Sx a U
theorem Px.move {a : Am} {s U : State} {locs : List Loc} (h : Px a s) (hW : s.WarmedH U.vm) (hS : va_S (aA a) s.heap U.heap locs) : Px a U := by
  obtain ⟨h1, h2, h3, ⟨h4, h5⟩, h6, s1, s2, s3, s4, s5⟩ := h
  have hk : ∀ q : Nat, q < s.heap.size → ¬ aA a q → U.heap[q]? = s.heap[q]? := hS.2.1
  refine ⟨h1.moved hW.alike, fun q hq => va_Nw.warmM hW (h2 q hq), h3.moved hW.alike, ⟨(h4.moved hW.alike).kept (hk _ (by omega) (by show ¬ aN a ≤ _; omega)), h5⟩, Nat.le_trans h6 hS.1, s1.warm hW, s2.warm hW, ?_, ?_, ?_⟩
  · exact vk_S.kept (vk_S.moved hW.alike s3) hk
  · exact va_Z.kept (va_Z.moved hW.alike s4) hk
  · exact va_Zq.kept (va_Zq.moved hW.alike s5) hk
theorem Px.call {a : Am} {U : State} {g : JFrame} {mk : MethodId} {as : Array Value} (h : Px a U) : Px a (U.calling g mk as) := by
  obtain ⟨h1, h2, h3, ⟨h4, h5⟩, h6, s1, s2, s3, s4, s5⟩ := h
  refine ⟨va_K.moved (u := U) (Vm.Alike.refl U.vm) h1, fun q hq => va_Nw.same (u := U) rfl rfl (h2 q hq), va_AO.moved (u := U) (Vm.Alike.refl U.vm) h3, ⟨va_X.moved (u := U) (Vm.Alike.refl U.vm) h4, h5⟩, h6, vk_R.same (u := U) rfl s1, vk_R.same (u := U) rfl s2, ?_, ?_, ?_⟩
  · exact vk_S.moved (u := U) (Vm.Alike.refl U.vm) s3
  · exact va_Z.moved (u := U) (Vm.Alike.refl U.vm) s4
  · exact va_Zq.moved (u := U) (Vm.Alike.refl U.vm) s5
def Fx (a : Am) (M : Mt) (p : Program) (s : State) (m : MethodId) (args : Array Value) (meth : Method) (c : Code) : Prop :=
  p.tables.exec = Jvm.exec ∧ c.code = M.2.1 ∧ c.maxLocals = M.2.2.1 ∧ s.vm.findClass M.1.cls = some m.cls ∧ (∀ w ∈ gtbl, w.before args s = true) ∧ meth.sig.returnType = M.2.2.2 ∧ meth.locks = false ∧ meth.name = M.1.name ∧ Px a s
def Qx (a : Am) (v : Option Value) (S' : St) (h' : Hp) : Array Value → State → Outcome → State → Prop := fun _ st oc t => oc = .returned v ∧ RepW a S' h' t.heap ∧ va_F (aA a) st t
def tot (S : St) : Nat := (S.1.map (·.2)).sum
def Gr (S S' : St) : Prop := S.1.length ≤ S'.1.length ∧ tot S ≤ tot S'
theorem Gr.rf {S : St} : Gr S S := ⟨Nat.le_refl _, Nat.le_refl _⟩
theorem Gr.trans {S S1 S2 : St} (h1 : Gr S S1) (h2 : Gr S1 S2) : Gr S S2 := ⟨Nat.le_trans h1.1 h2.1, Nat.le_trans h1.2 h2.2⟩
def Ev (a : Am) (d : Nat) (M : Mt) (pc : Nat) (lv : List (Nat × Value)) (st : List Value) (S : St) (h : Hp) (v : Option Value) (S' : St) (h' : Hp) : Prop :=
  ∀ (p : Program) (l : Launch) (e : Env) (R : Room) (s : State) (m : MethodId) (args : Array Value) (below : List Frame) (meth : Method) (c : Code) (H : Heap) (locs : List Loc) (cells slots : Nat) (ls : Array Slot),
    Fx a M p s m args meth c → d ≤ R.frames → 40 * d ≤ R.locals → cells + (S'.1.length - S.1.length) ≤ R.cells → slots + (tot S' - tot S) ≤ R.slots → lv_has ls M.2.2.1 lv → RepW a S h H → va_S (aA a) s.heap H locs →
    W p l e R s m args below meth c H locs cells slots (MQ below (Qx a v S' h') args s (cells + (S'.1.length - S.1.length)) (slots + (tot S' - tot S)) (aA a)) (F0 m pc ls st)
/-- from here the method comes to its end, with an answer and a heap that keep post -/
def T (a : Am) (d : Nat) (M : Mt) (pc : Nat) (lv : List (Nat × Value)) (st : List Value) (S : St) (h : Hp) (post : Option Value → St → Hp → Prop) : Prop :=
  ∃ (v : Option Value) (S' : St) (h' : Hp), post v S' h' ∧ Gr S S' ∧ Ev a d M pc lv st S h v S' h'
def Cn (a : Am) (d : Nat) (M : Mt) (as : List Value) (S : St) (h : Hp) (v : Option Value) (S' : St) (h' : Hp) : Prop :=
  Gr S S' ∧ ∀ l : Launch, Met l M.1 (Cond.code M.1 M.2.1 M.2.2.1 M.2.2.2 :: gtbl) { frames := d, cells := S'.1.length - S.1.length, slots := tot S' - tot S, locals := 40 * d } (va_Pc as (fun U => Px a U ∧ RepW a S h U.heap)) (Qx a v S' h') (S'.1.length - S.1.length) (tot S' - tot S) (aA a)
/-- a call of a method comes back with post -/
def CT (a : Am) (d : Nat) (M : Mt) (as : List Value) (S : St) (h : Hp) (post : Option Value → St → Hp → Prop) : Prop :=
  ∃ (v : Option Value) (S' : St) (h' : Hp), post v S' h' ∧ Cn a d M as S h v S' h'
section MACH
variable {a : Am} {d : Nat} {M : Mt} {pc : Nat} {lv : List (Nat × Value)} {st : List Value} {S : St} {h : Hp} {post : Option Value → St → Hp → Prop}
theorem T.weaken {post' : Option Value → St → Hp → Prop} (hh : ∀ v S' h', post v S' h' → post' v S' h') (k : T a d M pc lv st S h post) : T a d M pc lv st S h post' := by
  obtain ⟨v, S', h', hp, hE⟩ := k
  exact ⟨v, S', h', hh _ _ _ hp, hE⟩
theorem CT.weaken {as : List Value} {post' : Option Value → St → Hp → Prop} (k : CT a d M as S h post) (hh : ∀ v S' h', post v S' h' → post' v S' h') : CT a d M as S h post' := by
  obtain ⟨v, S', h', hp, hE⟩ := k
  exact ⟨v, S', h', hh _ _ _ hp, hE⟩
theorem t_go {pc' : Nat} {st' : List Value}
    (row : ∀ (p : Program) (l : Launch) (e : Env) (R : Room) (s : State) (m : MethodId) (args : Array Value) (below : List Frame) (meth : Method) (c : Code) (H : Heap) (locs : List Loc) (cells slots : Nat) (ls : Array Slot) (Q : State → Prop), Fx a M p s m args meth c → d ≤ R.frames → 40 * d ≤ R.locals → cells ≤ R.cells → slots ≤ R.slots → lv_has ls M.2.2.1 lv → RepW a S h H → va_S (aA a) s.heap H locs → W p l e R s m args below meth c H locs cells slots Q (F0 m pc' ls st') → W p l e R s m args below meth c H locs cells slots Q (F0 m pc ls st))
    (kk : T a d M pc' lv st' S h post) : T a d M pc lv st S h post := by
  obtain ⟨v, S', h', hp, hg, hE⟩ := kk
  refine ⟨v, S', h', hp, hg, ?_⟩
  intro p l e R s m args below meth c H locs cells slots ls hF h1 h2 h3 h4 hl hP hS
  exact row p l e R s m args below meth c H locs cells slots ls _ hF h1 h2 (by omega) (by omega) hl hP hS (hE p l e R s m args below meth c H locs cells slots ls hF h1 h2 h3 h4 hl hP hS)
theorem t_goL {pc' : Nat} {st' : List Value} {lv' : List (Nat × Value)}
    (row : ∀ (p : Program) (l : Launch) (e : Env) (R : Room) (s : State) (m : MethodId) (args : Array Value) (below : List Frame) (meth : Method) (c : Code) (H : Heap) (locs : List Loc) (cells slots : Nat) (ls : Array Slot) (Q : State → Prop), Fx a M p s m args meth c → lv_has ls M.2.2.1 lv → (∀ ls', lv_has ls' M.2.2.1 lv' → W p l e R s m args below meth c H locs cells slots Q (F0 m pc' ls' st')) → W p l e R s m args below meth c H locs cells slots Q (F0 m pc ls st))
    (kk : T a d M pc' lv' st' S h post) : T a d M pc lv st S h post := by
  obtain ⟨v, S', h', hp, hg, hE⟩ := kk
  refine ⟨v, S', h', hp, hg, ?_⟩
  intro p l e R s m args below meth c H locs cells slots ls hF h1 h2 h3 h4 hl hP hS
  exact row p l e R s m args below meth c H locs cells slots ls _ hF hl (fun ls' hl' => hE p l e R s m args below meth c H locs cells slots ls' hF h1 h2 h3 h4 hl' hP hS)
theorem t_goH {pc' : Nat} {st' : List Value} {S1 : St} {h1 : Hp} (hS1 : S1.1 = S.1)
    (row : ∀ (p : Program) (l : Launch) (e : Env) (R : Room) (s : State) (m : MethodId) (args : Array Value) (below : List Frame) (meth : Method) (c : Code) (H : Heap) (locs : List Loc) (cells slots : Nat) (ls : Array Slot) (Q : State → Prop), Fx a M p s m args meth c → d ≤ R.frames → 40 * d ≤ R.locals → lv_has ls M.2.2.1 lv → RepW a S h H → va_S (aA a) s.heap H locs → (∀ H1 locs1, RepW a S1 h1 H1 → va_S (aA a) s.heap H1 locs1 → W p l e R s m args below meth c H1 locs1 cells slots Q (F0 m pc' ls st')) → W p l e R s m args below meth c H locs cells slots Q (F0 m pc ls st))
    (kk : T a d M pc' lv st' S1 h1 post) : T a d M pc lv st S h post := by
  obtain ⟨v, S', h', hp, hg, hE⟩ := kk
  have ht : tot S1 = tot S := by unfold tot; rw [hS1]
  refine ⟨v, S', h', hp, ⟨by rw [← hS1]; exact hg.1, by rw [← ht]; exact hg.2⟩, ?_⟩
  intro p l e R s m args below meth c H locs cells slots ls hF h1 h2 h3 h4 hl hP hS
  rw [← hS1, ← ht] at *
  exact row p l e R s m args below meth c H locs cells slots ls _ hF h1 h2 hl hP hS (fun H1 locs1 hP1 hS1 => hE p l e R s m args below meth c H1 locs1 cells slots ls hF h1 h2 h3 h4 hl hP1 hS1)
theorem t_goA {pc' : Nat} {st' : List Value} {S1 : St} {h1 : Hp} {kn : Nat × Nat} (hS1 : S1.1 = S.1 ++ [kn])
    (row : ∀ (p : Program) (l : Launch) (e : Env) (R : Room) (s : State) (m : MethodId) (args : Array Value) (below : List Frame) (meth : Method) (c : Code) (H : Heap) (locs : List Loc) (cells slots : Nat) (ls : Array Slot) (Q : State → Prop), Fx a M p s m args meth c → cells + 1 ≤ R.cells → slots + kn.2 ≤ R.slots → lv_has ls M.2.2.1 lv → RepW a S h H → va_S (aA a) s.heap H locs → (∀ H1, RepW a S1 h1 H1 → va_S (aA a) s.heap H1 locs → W p l e R s m args below meth c H1 locs (cells + 1) (slots + kn.2) Q (F0 m pc' ls st')) → W p l e R s m args below meth c H locs cells slots Q (F0 m pc ls st))
    (kk : T a d M pc' lv st' S1 h1 post) : T a d M pc lv st S h post := by
  obtain ⟨v, S', h', hp, hg, hE⟩ := kk
  have hlen : S1.1.length = S.1.length + 1 := by rw [hS1]; simp
  have ht : tot S1 = tot S + kn.2 := by unfold tot; rw [hS1]; simp
  have g1 := hg.1
  have g2 := hg.2
  refine ⟨v, S', h', hp, ⟨by omega, by omega⟩, ?_⟩
  intro p l e R s m args below meth c H locs cells slots ls hF h1 h2 h3 h4 hl hP hS
  refine row p l e R s m args below meth c H locs cells slots ls _ hF (by omega) (by omega) hl hP hS (fun H1 hP1 hS1 => ?_)
  have K := hE p l e R s m args below meth c H1 locs (cells + 1) (slots + kn.2) ls hF h1 h2 (by omega) (by omega) hl hP1 hS1
  rw [show cells + 1 + (S'.1.length - S1.1.length) = cells + (S'.1.length - S.1.length) by omega, show slots + kn.2 + (tot S' - tot S1) = slots + (tot S' - tot S) by omega] at K
  exact K
/-- a method's contract out of its walk -/
theorem met_of {as : List Value} (hy : plainName M.1.cls = true) (hlen : (lg_sl as).length ≤ M.2.2.1) (k : T a d M 0 (lv_args 0 as) [] S h post) : CT a d M as S h post := by
  obtain ⟨v, S', h', hp, hg, hE⟩ := k
  refine ⟨v, S', h', hp, hg, fun l => ?_⟩
  refine Met.ofW (cc := M.2.1) (maxL := M.2.2.1) (ret := M.2.2.2) hy rfl ?_
  intro p e s m args below meth c s₁ B hml hv
  obtain ⟨rfl, hPx, hP⟩ := hv
  have hts := atoms_spec (ws := Cond.code M.1 M.2.1 M.2.2.1 M.2.2.2 :: gtbl) B.pre
  have hF : Fx a M p s m as.toArray meth c := ⟨B.exec, B.bytes, hml, findClass_of_methodNamed B.named, fun w hw => hts w (List.mem_cons_of_mem _ hw), B.returns, B.notSynchronized, (name_of_methodNamed B.named B.method).1, hPx⟩
  have hl := lv_entry as (n := M.2.2.1) hlen
  rw [lg_entry_eq]
  have K := hE p l e { frames := d, cells := S'.1.length - S.1.length, slots := tot S' - tot S, locals := 40 * d } s m as.toArray below meth c s.heap [] 0 0 _ hF (Nat.le_refl _) (Nat.le_refl _) (by simp) (by simp) hl hP va_S.rf
  simp only [Nat.zero_add] at K
  exact K
end MACH
end
section
section ROWS
variable {a : Am} {d : Nat} {M : Mt} {pc : Nat} {lv : List (Nat × Value)} {st : List Value} {S : St} {h : Hp} {post : Option Value → St → Hp → Prop}
theorem tr_iconst {n : Int} {v : Int32} (hd : decode M.2.1 pc = .ok (.iconst n, 1)) (hv : Int32.ofInt n = v) (k : T a d M (pc + 1) lv (.int v :: st) S h post) : T a d M pc lv st S h post := t_go (fun p l e R s m args below meth c H locs cells slots ls Q hF hd1 hd2 hc1 hc2 hl hP hS K => lv_iconst hF.1 hF.2.1 hd hv K) k
theorem tr_bipush {n : Int} {v : Int32} (hd : decode M.2.1 pc = .ok (.bipush n, 2)) (hv : (Int8.ofInt n).toInt32 = v) (k : T a d M (pc + 2) lv (.int v :: st) S h post) : T a d M pc lv st S h post := t_go (fun p l e R s m args below meth c H locs cells slots ls Q hF hd1 hd2 hc1 hc2 hl hP hS K => lv_bipush hF.1 hF.2.1 hd hv K) k
theorem tr_sipush {n : Int} {v : Int32} (hd : decode M.2.1 pc = .ok (.sipush n, 3)) (hv : (Int16.ofInt n).toInt32 = v) (k : T a d M (pc + 3) lv (.int v :: st) S h post) : T a d M pc lv st S h post := t_go (fun p l e R s m args below meth c H locs cells slots ls Q hF hd1 hd2 hc1 hc2 hl hP hS K => lv_sipush hF.1 hF.2.1 hd hv K) k
theorem tr_ldc2 {idx : Nat} {v : Int64} (hd : decode M.2.1 pc = .ok (.ldc2_w idx, 3)) (hw : Cond.constantLong M.1.cls idx v ∈ gtbl) (k : T a d M (pc + 3) lv (.long v :: st) S h post) : T a d M pc lv st S h post := t_go (fun p l e R s m args below meth c H locs cells slots ls Q hF hd1 hd2 hc1 hc2 hl hP hS K => lv_ldc2 hF.1 hF.2.1 hF.2.2.2.1 (hF.2.2.2.2.1 _ hw) hd K) k
theorem tr_iload_n {f : Fin 4} {i : Nat} {x : Int32} (q : Nat) (hd : decode M.2.1 pc = .ok (.iload_n f, 1)) (hi : (f : Nat) = i) (hq : lv[q]? = some (i, .int x)) (k : T a d M (pc + 1) lv (.int x :: st) S h post) : T a d M pc lv st S h post := t_go (fun p l e R s m args below meth c H locs cells slots ls Q hF hd1 hd2 hc1 hc2 hl hP hS K => lv_iload_n hF.1 hF.2.1 hd hi (lv_at hl q hq) K) k
theorem tr_iload {i : Nat} {x : Int32} (q : Nat) (hd : decode M.2.1 pc = .ok (.iload i, 2)) (hq : lv[q]? = some (i, .int x)) (k : T a d M (pc + 2) lv (.int x :: st) S h post) : T a d M pc lv st S h post := t_go (fun p l e R s m args below meth c H locs cells slots ls Q hF hd1 hd2 hc1 hc2 hl hP hS K => lv_iload hF.1 hF.2.1 hd (lv_at hl q hq) K) k
theorem tr_lload_n {f : Fin 4} {i : Nat} {x : Int64} (q : Nat) (hd : decode M.2.1 pc = .ok (.lload_n f, 1)) (hi : (f : Nat) = i) (hq : lv[q]? = some (i, .long x)) (k : T a d M (pc + 1) lv (.long x :: st) S h post) : T a d M pc lv st S h post := t_go (fun p l e R s m args below meth c H locs cells slots ls Q hF hd1 hd2 hc1 hc2 hl hP hS K => lv_lload_n hF.1 hF.2.1 hd hi (lv_at hl q hq) K) k
theorem tr_lload {i : Nat} {x : Int64} (q : Nat) (hd : decode M.2.1 pc = .ok (.lload i, 2)) (hq : lv[q]? = some (i, .long x)) (k : T a d M (pc + 2) lv (.long x :: st) S h post) : T a d M pc lv st S h post := t_go (fun p l e R s m args below meth c H locs cells slots ls Q hF hd1 hd2 hc1 hc2 hl hP hS K => lv_lload hF.1 hF.2.1 hd (lv_at hl q hq) K) k
theorem tr_aload_n {f : Fin 4} {i o : Nat} (q : Nat) (hd : decode M.2.1 pc = .ok (.aload_n f, 1)) (hi : (f : Nat) = i) (hq : lv[q]? = some (i, rv a o)) (k : T a d M (pc + 1) lv (rv a o :: st) S h post) : T a d M pc lv st S h post := t_go (fun p l e R s m args below meth c H locs cells slots ls Q hF hd1 hd2 hc1 hc2 hl hP hS K => lv_aload_n hF.1 hF.2.1 hd hi (lv_at hl q hq) K) k
theorem tr_aload_nS {f : Fin 4} {i o : Nat} (q : Nat) (hd : decode M.2.1 pc = .ok (.aload_n f, 1)) (hi : (f : Nat) = i) (hq : lv[q]? = some (i, .ref o)) (k : T a d M (pc + 1) lv (.ref o :: st) S h post) : T a d M pc lv st S h post := t_go (fun p l e R s m args below meth c H locs cells slots ls Q hF hd1 hd2 hc1 hc2 hl hP hS K => lv_aload_n hF.1 hF.2.1 hd hi (lv_at hl q hq) K) k
theorem tr_istore_n {f : Fin 4} {i : Nat} {x : Int32} {lv' : List (Nat × Value)} (hd : decode M.2.1 pc = .ok (.istore_n f, 1)) (hi : (f : Nat) = i) (hn : i < M.2.2.1) (hl : (i, Value.int x) :: lv.filter (fun q => !(q.1 == i) && !(q.1 + 1 == i && q.2.category == 2)) = lv') (k : T a d M (pc + 1) lv' st S h post) : T a d M pc lv (Value.int x :: st) S h post := t_goL (fun p l e R s m args below meth c H locs cells slots ls Q hF hl0 K => lv_istore_n hF.1 hF.2.1 hd hi hl0 hn hl K) k
theorem tr_istore {i : Nat} {x : Int32} {lv' : List (Nat × Value)} (hd : decode M.2.1 pc = .ok (.istore i, 2)) (hn : i < M.2.2.1) (hl : (i, Value.int x) :: lv.filter (fun q => !(q.1 == i) && !(q.1 + 1 == i && q.2.category == 2)) = lv') (k : T a d M (pc + 2) lv' st S h post) : T a d M pc lv (Value.int x :: st) S h post := t_goL (fun p l e R s m args below meth c H locs cells slots ls Q hF hl0 K => lv_istore hF.1 hF.2.1 hd hl0 hn hl K) k
theorem tr_lstore_n {f : Fin 4} {i : Nat} {x : Int64} {lv' : List (Nat × Value)} (hd : decode M.2.1 pc = .ok (.lstore_n f, 1)) (hi : (f : Nat) = i) (hn : i + 1 < M.2.2.1) (hl : (i, Value.long x) :: lv.filter (fun q => !(q.1 == i) && (!(q.1 == i + 1) && !(q.1 + 1 == i && q.2.category == 2))) = lv') (k : T a d M (pc + 1) lv' st S h post) : T a d M pc lv (Value.long x :: st) S h post := t_goL (fun p l e R s m args below meth c H locs cells slots ls Q hF hl0 K => lv_lstore_n hF.1 hF.2.1 hd hi hl0 hn hl K) k
theorem tr_lstore {i : Nat} {x : Int64} {lv' : List (Nat × Value)} (hd : decode M.2.1 pc = .ok (.lstore i, 2)) (hn : i + 1 < M.2.2.1) (hl : (i, Value.long x) :: lv.filter (fun q => !(q.1 == i) && (!(q.1 == i + 1) && !(q.1 + 1 == i && q.2.category == 2))) = lv') (k : T a d M (pc + 2) lv' st S h post) : T a d M pc lv (Value.long x :: st) S h post := t_goL (fun p l e R s m args below meth c H locs cells slots ls Q hF hl0 K => lv_lstore hF.1 hF.2.1 hd hl0 hn hl K) k
theorem tr_astore_n {f : Fin 4} {i o : Nat} {lv' : List (Nat × Value)} (hd : decode M.2.1 pc = .ok (.astore_n f, 1)) (hi : (f : Nat) = i) (hn : i < M.2.2.1) (hl : (i, rv a o) :: lv.filter (fun q => !(q.1 == i) && !(q.1 + 1 == i && q.2.category == 2)) = lv') (k : T a d M (pc + 1) lv' st S h post) : T a d M pc lv (rv a o :: st) S h post := t_goL (fun p l e R s m args below meth c H locs cells slots ls Q hF hl0 K => lv_astore_n hF.1 hF.2.1 hd hi hl0 hn hl K) k
theorem tr_iinc {i : Nat} {n : Int} {x v : Int32} {lv' : List (Nat × Value)} (q : Nat) (hd : decode M.2.1 pc = .ok (.iinc i n, 3)) (hq : lv[q]? = some (i, .int x)) (hv : x + Int32.ofInt n = v) (hn : i < M.2.2.1) (hl : (i, Value.int v) :: lv.filter (fun q => !(q.1 == i) && !(q.1 + 1 == i && q.2.category == 2)) = lv') (k : T a d M (pc + 3) lv' st S h post) : T a d M pc lv st S h post := t_goL (fun p l e R s m args below meth c H locs cells slots ls Q hF hl0 K => lv_iinc hF.1 hF.2.1 hd hl0 hq hv hn hl K) k
theorem tr_iadd {x y v : Int32} (hd : decode M.2.1 pc = .ok (.iadd, 1)) (hv : x + y = v) (k : T a d M (pc + 1) lv (.int v :: st) S h post) : T a d M pc lv (.int y :: .int x :: st) S h post := by subst hv; exact t_go (fun p l e R s m args below meth c H locs cells slots ls Q hF hd1 hd2 hc1 hc2 hl hP hS K => lv_iadd hF.1 hF.2.1 hd K) k
theorem tr_isub {x y v : Int32} (hd : decode M.2.1 pc = .ok (.isub, 1)) (hv : x - y = v) (k : T a d M (pc + 1) lv (.int v :: st) S h post) : T a d M pc lv (.int y :: .int x :: st) S h post := by subst hv; exact t_go (fun p l e R s m args below meth c H locs cells slots ls Q hF hd1 hd2 hc1 hc2 hl hP hS K => lv_isub hF.1 hF.2.1 hd K) k
theorem tr_imul {x y v : Int32} (hd : decode M.2.1 pc = .ok (.imul, 1)) (hv : x * y = v) (k : T a d M (pc + 1) lv (.int v :: st) S h post) : T a d M pc lv (.int y :: .int x :: st) S h post := by subst hv; exact t_go (fun p l e R s m args below meth c H locs cells slots ls Q hF hd1 hd2 hc1 hc2 hl hP hS K => lv_imul hF.1 hF.2.1 hd K) k
theorem tr_iand {x y v : Int32} (hd : decode M.2.1 pc = .ok (.iand, 1)) (hv : x &&& y = v) (k : T a d M (pc + 1) lv (.int v :: st) S h post) : T a d M pc lv (.int y :: .int x :: st) S h post := by subst hv; exact t_go (fun p l e R s m args below meth c H locs cells slots ls Q hF hd1 hd2 hc1 hc2 hl hP hS K => lv_iand hF.1 hF.2.1 hd K) k
theorem tr_ior {x y v : Int32} (hd : decode M.2.1 pc = .ok (.ior, 1)) (hv : x ||| y = v) (k : T a d M (pc + 1) lv (.int v :: st) S h post) : T a d M pc lv (.int y :: .int x :: st) S h post := by subst hv; exact t_go (fun p l e R s m args below meth c H locs cells slots ls Q hF hd1 hd2 hc1 hc2 hl hP hS K => lv_ior hF.1 hF.2.1 hd K) k
theorem tr_ixor {x y v : Int32} (hd : decode M.2.1 pc = .ok (.ixor, 1)) (hv : x ^^^ y = v) (k : T a d M (pc + 1) lv (.int v :: st) S h post) : T a d M pc lv (.int y :: .int x :: st) S h post := by subst hv; exact t_go (fun p l e R s m args below meth c H locs cells slots ls Q hF hd1 hd2 hc1 hc2 hl hP hS K => lv_ixor hF.1 hF.2.1 hd K) k
theorem tr_ishl {x y v : Int32} (hd : decode M.2.1 pc = .ok (.ishl, 1)) (hv : x <<< (y &&& 31) = v) (k : T a d M (pc + 1) lv (.int v :: st) S h post) : T a d M pc lv (.int y :: .int x :: st) S h post := by subst hv; exact t_go (fun p l e R s m args below meth c H locs cells slots ls Q hF hd1 hd2 hc1 hc2 hl hP hS K => lv_ishl hF.1 hF.2.1 hd K) k
theorem tr_ishr {x y v : Int32} (hd : decode M.2.1 pc = .ok (.ishr, 1)) (hv : x >>> (y &&& 31) = v) (k : T a d M (pc + 1) lv (.int v :: st) S h post) : T a d M pc lv (.int y :: .int x :: st) S h post := by subst hv; exact t_go (fun p l e R s m args below meth c H locs cells slots ls Q hF hd1 hd2 hc1 hc2 hl hP hS K => lv_ishr hF.1 hF.2.1 hd K) k
theorem tr_idiv {x y v : Int32} (hd : decode M.2.1 pc = .ok (.idiv, 1)) (hne : ¬ y = 0) (hv : x / y = v) (k : T a d M (pc + 1) lv (.int v :: st) S h post) : T a d M pc lv (.int y :: .int x :: st) S h post := by subst hv; exact t_go (fun p l e R s m args below meth c H locs cells slots ls Q hF hd1 hd2 hc1 hc2 hl hP hS K => lv_idiv hF.1 hF.2.1 hd hne K) k
theorem tr_irem {x y v : Int32} (hd : decode M.2.1 pc = .ok (.irem, 1)) (hne : ¬ y = 0) (hv : x - x / y * y = v) (k : T a d M (pc + 1) lv (.int v :: st) S h post) : T a d M pc lv (.int y :: .int x :: st) S h post := by subst hv; exact t_go (fun p l e R s m args below meth c H locs cells slots ls Q hF hd1 hd2 hc1 hc2 hl hP hS K => lv_irem hF.1 hF.2.1 hd hne K) k
theorem tr_ladd {x y v : Int64} (hd : decode M.2.1 pc = .ok (.ladd, 1)) (hv : x + y = v) (k : T a d M (pc + 1) lv (.long v :: st) S h post) : T a d M pc lv (.long y :: .long x :: st) S h post := by subst hv; exact t_go (fun p l e R s m args below meth c H locs cells slots ls Q hF hd1 hd2 hc1 hc2 hl hP hS K => lv_ladd hF.1 hF.2.1 hd K) k
theorem tr_lmul {x y v : Int64} (hd : decode M.2.1 pc = .ok (.lmul, 1)) (hv : x * y = v) (k : T a d M (pc + 1) lv (.long v :: st) S h post) : T a d M pc lv (.long y :: .long x :: st) S h post := by subst hv; exact t_go (fun p l e R s m args below meth c H locs cells slots ls Q hF hd1 hd2 hc1 hc2 hl hP hS K => lv_lmul hF.1 hF.2.1 hd K) k
theorem tr_i2l {x : Int32} (hd : decode M.2.1 pc = .ok (.i2l, 1)) (k : T a d M (pc + 1) lv (.long x.toInt64 :: st) S h post) : T a d M pc lv (.int x :: st) S h post := t_go (fun p l e R s m args below meth c H locs cells slots ls Q hF hd1 hd2 hc1 hc2 hl hP hS K => lv_i2l hF.1 hF.2.1 hd rfl K) k
theorem tr_i2b {x v : Int32} (hd : decode M.2.1 pc = .ok (.i2b, 1)) (hv : x.toInt8.toInt32 = v) (k : T a d M (pc + 1) lv (.int v :: st) S h post) : T a d M pc lv (.int x :: st) S h post := t_go (fun p l e R s m args below meth c H locs cells slots ls Q hF hd1 hd2 hc1 hc2 hl hP hS K => lv_i2b hF.1 hF.2.1 hd hv K) k
theorem tr_i2c {x v : Int32} (hd : decode M.2.1 pc = .ok (.i2c, 1)) (hv : (x.toUInt32 % 65536).toInt32 = v) (k : T a d M (pc + 1) lv (.int v :: st) S h post) : T a d M pc lv (.int x :: st) S h post := t_go (fun p l e R s m args below meth c H locs cells slots ls Q hF hd1 hd2 hc1 hc2 hl hP hS K => lv_i2c hF.1 hF.2.1 hd hv K) k
theorem tr_lcmp {x y : Int64} (hd : decode M.2.1 pc = .ok (.lcmp, 1)) (k : T a d M (pc + 1) lv (.int (lg_cmp x y) :: st) S h post) : T a d M pc lv (.long y :: .long x :: st) S h post := t_go (fun p l e R s m args below meth c H locs cells slots ls Q hF hd1 hd2 hc1 hc2 hl hP hS K => W.lcmp hF.1 hF.2.1 hd K) k
theorem tr_dup {v : Value} (hd : decode M.2.1 pc = .ok (.dup, 1)) (hc : v.category = 1) (k : T a d M (pc + 1) lv (v :: v :: st) S h post) : T a d M pc lv (v :: st) S h post := t_go (fun p l e R s m args below meth c H locs cells slots ls Q hF hd1 hd2 hc1 hc2 hl hP hS K => lv_dup hF.1 hF.2.1 hd hc K) k
theorem tr_dup2 {v w : Value} (hd : decode M.2.1 pc = .ok (.dup2, 1)) (hc : v.category = 1) (hcw : w.category = 1) (k : T a d M (pc + 1) lv (v :: w :: v :: w :: st) S h post) : T a d M pc lv (v :: w :: st) S h post := t_go (fun p l e R s m args below meth c H locs cells slots ls Q hF hd1 hd2 hc1 hc2 hl hP hS K => lv_dup2_11 hF.1 hF.2.1 hd hc hcw K) k
theorem tr_pop {v : Value} (hd : decode M.2.1 pc = .ok (.pop, 1)) (hc : v.category = 1) (k : T a d M (pc + 1) lv st S h post) : T a d M pc lv (v :: st) S h post := t_go (fun p l e R s m args below meth c H locs cells slots ls Q hF hd1 hd2 hc1 hc2 hl hP hS K => lv_pop hF.1 hF.2.1 hd hc K) k
theorem tr_icmp_eq {x y : Int32} {off : Int} {tgt : Nat} {c0 : Prop} (hd : decode M.2.1 pc = .ok (.if_icmp .eq off, 3)) (ht : (pc : Int) + off = (tgt : Int)) (hc : x = y ↔ c0) (kt : c0 → T a d M tgt lv st S h post) (kf : ¬ c0 → T a d M (pc + 3) lv st S h post) : T a d M pc lv (.int y :: .int x :: st) S h post := by
  by_cases q : c0
  · exact t_go (fun p l e R s m args below meth c H locs cells slots ls Q hF hd1 hd2 hc1 hc2 hl hP hS K => lv_icmp_eq hF.1 hF.2.1 hd ht (fun _ => K) (fun w => absurd (hc.mpr q) w)) (kt q)
  · exact t_go (fun p l e R s m args below meth c H locs cells slots ls Q hF hd1 hd2 hc1 hc2 hl hP hS K => lv_icmp_eq hF.1 hF.2.1 hd ht (fun w => absurd (hc.mp w) q) (fun _ => K)) (kf q)
theorem tr_if_eq {x : Int32} {off : Int} {tgt : Nat} {c0 : Prop} (hd : decode M.2.1 pc = .ok (.ifCond .eq off, 3)) (ht : (pc : Int) + off = (tgt : Int)) (hc : x = 0 ↔ c0) (kt : c0 → T a d M tgt lv st S h post) (kf : ¬ c0 → T a d M (pc + 3) lv st S h post) : T a d M pc lv (.int x :: st) S h post := by
  by_cases q : c0
  · exact t_go (fun p l e R s m args below meth c H locs cells slots ls Q hF hd1 hd2 hc1 hc2 hl hP hS K => lv_if_eq hF.1 hF.2.1 hd ht (fun _ => K) (fun w => absurd (hc.mpr q) w)) (kt q)
  · exact t_go (fun p l e R s m args below meth c H locs cells slots ls Q hF hd1 hd2 hc1 hc2 hl hP hS K => lv_if_eq hF.1 hF.2.1 hd ht (fun w => absurd (hc.mp w) q) (fun _ => K)) (kf q)
theorem tr_icmp_lt {x y : Int32} {off : Int} {tgt : Nat} {c0 : Prop} (hd : decode M.2.1 pc = .ok (.if_icmp .lt off, 3)) (ht : (pc : Int) + off = (tgt : Int)) (hc : x < y ↔ c0) (kt : c0 → T a d M tgt lv st S h post) (kf : ¬ c0 → T a d M (pc + 3) lv st S h post) : T a d M pc lv (.int y :: .int x :: st) S h post := by
  by_cases q : c0
  · exact t_go (fun p l e R s m args below meth c H locs cells slots ls Q hF hd1 hd2 hc1 hc2 hl hP hS K => lv_icmp_lt hF.1 hF.2.1 hd ht (fun _ => K) (fun w => absurd (hc.mpr q) w)) (kt q)
  · exact t_go (fun p l e R s m args below meth c H locs cells slots ls Q hF hd1 hd2 hc1 hc2 hl hP hS K => lv_icmp_lt hF.1 hF.2.1 hd ht (fun w => absurd (hc.mp w) q) (fun _ => K)) (kf q)
theorem tr_if_lt {x : Int32} {off : Int} {tgt : Nat} {c0 : Prop} (hd : decode M.2.1 pc = .ok (.ifCond .lt off, 3)) (ht : (pc : Int) + off = (tgt : Int)) (hc : x < 0 ↔ c0) (kt : c0 → T a d M tgt lv st S h post) (kf : ¬ c0 → T a d M (pc + 3) lv st S h post) : T a d M pc lv (.int x :: st) S h post := by
  by_cases q : c0
  · exact t_go (fun p l e R s m args below meth c H locs cells slots ls Q hF hd1 hd2 hc1 hc2 hl hP hS K => lv_if_lt hF.1 hF.2.1 hd ht (fun _ => K) (fun w => absurd (hc.mpr q) w)) (kt q)
  · exact t_go (fun p l e R s m args below meth c H locs cells slots ls Q hF hd1 hd2 hc1 hc2 hl hP hS K => lv_if_lt hF.1 hF.2.1 hd ht (fun w => absurd (hc.mp w) q) (fun _ => K)) (kf q)
theorem tr_icmp_ge {x y : Int32} {off : Int} {tgt : Nat} {c0 : Prop} (hd : decode M.2.1 pc = .ok (.if_icmp .ge off, 3)) (ht : (pc : Int) + off = (tgt : Int)) (hc : y ≤ x ↔ c0) (kt : c0 → T a d M tgt lv st S h post) (kf : ¬ c0 → T a d M (pc + 3) lv st S h post) : T a d M pc lv (.int y :: .int x :: st) S h post := by
  by_cases q : c0
  · exact t_go (fun p l e R s m args below meth c H locs cells slots ls Q hF hd1 hd2 hc1 hc2 hl hP hS K => lv_icmp_ge hF.1 hF.2.1 hd ht (fun _ => K) (fun w => absurd (hc.mpr q) w)) (kt q)
  · exact t_go (fun p l e R s m args below meth c H locs cells slots ls Q hF hd1 hd2 hc1 hc2 hl hP hS K => lv_icmp_ge hF.1 hF.2.1 hd ht (fun w => absurd (hc.mp w) q) (fun _ => K)) (kf q)
theorem tr_if_ge {x : Int32} {off : Int} {tgt : Nat} {c0 : Prop} (hd : decode M.2.1 pc = .ok (.ifCond .ge off, 3)) (ht : (pc : Int) + off = (tgt : Int)) (hc : 0 ≤ x ↔ c0) (kt : c0 → T a d M tgt lv st S h post) (kf : ¬ c0 → T a d M (pc + 3) lv st S h post) : T a d M pc lv (.int x :: st) S h post := by
  by_cases q : c0
  · exact t_go (fun p l e R s m args below meth c H locs cells slots ls Q hF hd1 hd2 hc1 hc2 hl hP hS K => lv_if_ge hF.1 hF.2.1 hd ht (fun _ => K) (fun w => absurd (hc.mpr q) w)) (kt q)
  · exact t_go (fun p l e R s m args below meth c H locs cells slots ls Q hF hd1 hd2 hc1 hc2 hl hP hS K => lv_if_ge hF.1 hF.2.1 hd ht (fun w => absurd (hc.mp w) q) (fun _ => K)) (kf q)
theorem tr_icmp_gt {x y : Int32} {off : Int} {tgt : Nat} {c0 : Prop} (hd : decode M.2.1 pc = .ok (.if_icmp .gt off, 3)) (ht : (pc : Int) + off = (tgt : Int)) (hc : y < x ↔ c0) (kt : c0 → T a d M tgt lv st S h post) (kf : ¬ c0 → T a d M (pc + 3) lv st S h post) : T a d M pc lv (.int y :: .int x :: st) S h post := by
  by_cases q : c0
  · exact t_go (fun p l e R s m args below meth c H locs cells slots ls Q hF hd1 hd2 hc1 hc2 hl hP hS K => lv_icmp_gt hF.1 hF.2.1 hd ht (fun _ => K) (fun w => absurd (hc.mpr q) w)) (kt q)
  · exact t_go (fun p l e R s m args below meth c H locs cells slots ls Q hF hd1 hd2 hc1 hc2 hl hP hS K => lv_icmp_gt hF.1 hF.2.1 hd ht (fun w => absurd (hc.mp w) q) (fun _ => K)) (kf q)
theorem tr_if_gt {x : Int32} {off : Int} {tgt : Nat} {c0 : Prop} (hd : decode M.2.1 pc = .ok (.ifCond .gt off, 3)) (ht : (pc : Int) + off = (tgt : Int)) (hc : 0 < x ↔ c0) (kt : c0 → T a d M tgt lv st S h post) (kf : ¬ c0 → T a d M (pc + 3) lv st S h post) : T a d M pc lv (.int x :: st) S h post := by
  by_cases q : c0
  · exact t_go (fun p l e R s m args below meth c H locs cells slots ls Q hF hd1 hd2 hc1 hc2 hl hP hS K => lv_if_gt hF.1 hF.2.1 hd ht (fun _ => K) (fun w => absurd (hc.mpr q) w)) (kt q)
  · exact t_go (fun p l e R s m args below meth c H locs cells slots ls Q hF hd1 hd2 hc1 hc2 hl hP hS K => lv_if_gt hF.1 hF.2.1 hd ht (fun w => absurd (hc.mp w) q) (fun _ => K)) (kf q)
theorem tr_icmp_le {x y : Int32} {off : Int} {tgt : Nat} {c0 : Prop} (hd : decode M.2.1 pc = .ok (.if_icmp .le off, 3)) (ht : (pc : Int) + off = (tgt : Int)) (hc : x ≤ y ↔ c0) (kt : c0 → T a d M tgt lv st S h post) (kf : ¬ c0 → T a d M (pc + 3) lv st S h post) : T a d M pc lv (.int y :: .int x :: st) S h post := by
  by_cases q : c0
  · exact t_go (fun p l e R s m args below meth c H locs cells slots ls Q hF hd1 hd2 hc1 hc2 hl hP hS K => lv_icmp_le hF.1 hF.2.1 hd ht (fun _ => K) (fun w => absurd (hc.mpr q) w)) (kt q)
  · exact t_go (fun p l e R s m args below meth c H locs cells slots ls Q hF hd1 hd2 hc1 hc2 hl hP hS K => lv_icmp_le hF.1 hF.2.1 hd ht (fun w => absurd (hc.mp w) q) (fun _ => K)) (kf q)
theorem tr_if_le {x : Int32} {off : Int} {tgt : Nat} {c0 : Prop} (hd : decode M.2.1 pc = .ok (.ifCond .le off, 3)) (ht : (pc : Int) + off = (tgt : Int)) (hc : x ≤ 0 ↔ c0) (kt : c0 → T a d M tgt lv st S h post) (kf : ¬ c0 → T a d M (pc + 3) lv st S h post) : T a d M pc lv (.int x :: st) S h post := by
  by_cases q : c0
  · exact t_go (fun p l e R s m args below meth c H locs cells slots ls Q hF hd1 hd2 hc1 hc2 hl hP hS K => lv_if_le hF.1 hF.2.1 hd ht (fun _ => K) (fun w => absurd (hc.mpr q) w)) (kt q)
  · exact t_go (fun p l e R s m args below meth c H locs cells slots ls Q hF hd1 hd2 hc1 hc2 hl hP hS K => lv_if_le hF.1 hF.2.1 hd ht (fun w => absurd (hc.mp w) q) (fun _ => K)) (kf q)
theorem tr_icmp_ne {x y : Int32} {off : Int} {tgt : Nat} {c0 : Prop} (hd : decode M.2.1 pc = .ok (.if_icmp .ne off, 3)) (ht : (pc : Int) + off = (tgt : Int)) (hc : x = y ↔ c0) (kt : ¬ c0 → T a d M tgt lv st S h post) (kf : c0 → T a d M (pc + 3) lv st S h post) : T a d M pc lv (.int y :: .int x :: st) S h post := by
  by_cases q : c0
  · exact t_go (fun p l e R s m args below meth c H locs cells slots ls Q hF hd1 hd2 hc1 hc2 hl hP hS K => lv_icmp_ne hF.1 hF.2.1 hd ht (fun w => absurd (hc.mpr q) w) (fun _ => K)) (kf q)
  · exact t_go (fun p l e R s m args below meth c H locs cells slots ls Q hF hd1 hd2 hc1 hc2 hl hP hS K => lv_icmp_ne hF.1 hF.2.1 hd ht (fun _ => K) (fun w => absurd (hc.mp w) q)) (kt q)
theorem tr_if_ne {x : Int32} {off : Int} {tgt : Nat} {c0 : Prop} (hd : decode M.2.1 pc = .ok (.ifCond .ne off, 3)) (ht : (pc : Int) + off = (tgt : Int)) (hc : x = 0 ↔ c0) (kt : ¬ c0 → T a d M tgt lv st S h post) (kf : c0 → T a d M (pc + 3) lv st S h post) : T a d M pc lv (.int x :: st) S h post := by
  by_cases q : c0
  · exact t_go (fun p l e R s m args below meth c H locs cells slots ls Q hF hd1 hd2 hc1 hc2 hl hP hS K => lv_if_ne hF.1 hF.2.1 hd ht (fun w => absurd (hc.mpr q) w) (fun _ => K)) (kf q)
  · exact t_go (fun p l e R s m args below meth c H locs cells slots ls Q hF hd1 hd2 hc1 hc2 hl hP hS K => lv_if_ne hF.1 hF.2.1 hd ht (fun _ => K) (fun w => absurd (hc.mp w) q)) (kt q)
theorem tr_goto {off : Int} {tgt : Nat} (hd : decode M.2.1 pc = .ok (.goto off, 3)) (ht : (pc : Int) + off = (tgt : Int)) (k : T a d M tgt lv st S h post) : T a d M pc lv st S h post := t_go (fun p l e R s m args below meth c H locs cells slots ls Q hF hd1 hd2 hc1 hc2 hl hP hS K => lv_goto hF.1 hF.2.1 hd ht K) k
theorem tr_tabIn {dflt lo hi : Int} {offs : Array Int} {len : Nat} {x : Int32} {off : Int} {tgt : Nat} (hd : decode M.2.1 pc = .ok (.tableswitch dflt lo hi offs, len)) (h1 : ¬ x.toInt < lo) (h2 : ¬ hi < x.toInt) (ho : offs[(x.toInt - lo).toNat]? = some off) (ht : (pc : Int) + off = (tgt : Int)) (k : T a d M tgt lv st S h post) : T a d M pc lv (.int x :: st) S h post := t_go (fun p l e R s m args below meth c H locs cells slots ls Q hF hd1 hd2 hc1 hc2 hl hP hS K => lv_tableIn hF.1 hF.2.1 hd h1 h2 ho ht K) k
theorem tr_tabOut {dflt lo hi : Int} {offs : Array Int} {len : Nat} {x : Int32} {tgt : Nat} (hd : decode M.2.1 pc = .ok (.tableswitch dflt lo hi offs, len)) (h1 : x.toInt < lo ∨ hi < x.toInt) (ht : (pc : Int) + dflt = (tgt : Int)) (k : T a d M tgt lv st S h post) : T a d M pc lv (.int x :: st) S h post := t_go (fun p l e R s m args below meth c H locs cells slots ls Q hF hd1 hd2 hc1 hc2 hl hP hS K => lv_tableOut hF.1 hF.2.1 hd h1 ht K) k
theorem tr_look {dflt : Int} {ps : Array (Int × Int)} {len : Nat} {x : Int32} {off : Int} {tgt : Nat} (hd : decode M.2.1 pc = .ok (.lookupswitch dflt ps, len)) (hp : (ps.toList.zip (ps.toList.drop 1)).all (fun (a, next) => a.1 < next.1) = true) (ho : Op.lookupswitch.offset ps.toList dflt x.toInt = off) (ht : (pc : Int) + off = (tgt : Int)) (k : T a d M tgt lv st S h post) : T a d M pc lv (.int x :: st) S h post := t_go (fun p l e R s m args below meth c H locs cells slots ls Q hF hd1 hd2 hc1 hc2 hl hP hS K => lv_lookup hF.1 hF.2.1 hd hp ho ht K) k
theorem ob_get {o ci N : Nat} (ho : S.1[o]? = some (ci + 3, N)) : (wsOf a S h)[o]? = some (aN a + o, .inr (ci, fvL a S h o ci)) := ws_get ho
theorem tr_getI {o ci N k idx : Nat} {fin : Bool} {ty : FieldType} {x : Int32} (hd : decode M.2.1 pc = .ok (.getfield idx, 3)) (ho : S.1[o]? = some (ci + 3, N)) (fi : FI M.1.cls idx ci k fin ty) (hk : (fkT.getD ci [])[k]? = some false) (hv : h o k = x) (kk : T a d M (pc + 3) lv (.int x :: st) S h post) : T a d M pc lv (rv a o :: st) S h post := by
  subst hv
  obtain ⟨C, T0, N0, hc, hkN, hw, -, -, hown⟩ := fi
  exact t_go (fun p l e R s m args below meth c H locs cells slots ls Q hF hd1 hd2 hc1 hc2 hl hP hS K => va_get hF.1 hF.2.1 hF.2.2.2.2.1 (cl_ok ci C T0 N0 hc).1 hF.2.2.2.1 hF.2.2.2.2.2.2.2.2.1 hP.1 o (ob_get ho) hc k hkN (hF.2.2.2.2.1 _ hw) (fun _ q => q) (fv_get hk) hd K) kk
theorem tr_getR {o ci N k idx q : Nat} {fin : Bool} {ty : FieldType} (hd : decode M.2.1 pc = .ok (.getfield idx, 3)) (ho : S.1[o]? = some (ci + 3, N)) (fi : FI M.1.cls idx ci k fin ty) (hk : (fkT.getD ci [])[k]? = some true) (hg : S.2 o k = some q) (kk : T a d M (pc + 3) lv (rv a q :: st) S h post) : T a d M pc lv (rv a o :: st) S h post := by
  obtain ⟨C, T0, N0, hc, hkN, hw, -, -, hown⟩ := fi
  have hv : (fvL a S h o ci)[k]? = some (rv a q) := by rw [fv_get hk, hg]; rfl
  exact t_go (fun p l e R s m args below meth c H locs cells slots ls Q hF hd1 hd2 hc1 hc2 hl hP hS K => va_get hF.1 hF.2.1 hF.2.2.2.2.1 (cl_ok ci C T0 N0 hc).1 hF.2.2.2.1 hF.2.2.2.2.2.2.2.2.1 hP.1 o (ob_get ho) hc k hkN (hF.2.2.2.2.1 _ hw) (fun _ q => q) hv hd K) kk
/-- a store into a field, at the machine -/
theorem w_put {p : Program} {l : Launch} {e : Env} {R : Room} {s : State} {m : MethodId} {args : Array Value} {below : List Frame} {meth : Method} {c : Code} {H : Heap} {locs : List Loc} {cells slots : Nat} {ls : Array Slot} {Q : State → Prop} {o ci N k idx : Nat} {fin : Bool} {ty : FieldType} {v : Value} {st : List Value} (hF : Fx a M p s m args meth c) (hP : RepW a S h H) (hS : va_S (aA a) s.heap H locs) (hd : decode M.2.1 pc = .ok (.putfield idx, 3)) (ho : S.1[o]? = some (ci + 3, N)) (fi : FI M.1.cls idx ci k fin ty) (hfin0 : fin = false ∨ M.1.name = "<init>") (hn : narrow ty v = v) (hf : fits ty v = true)
    (K : ∀ H1 locs1, va_P a.1 vwC ((wsOf a S h).set o (aN a + o, .inr (ci, (fvL a S h o ci).set k v))) H1 → H1.size = H.size → va_S (aA a) s.heap H1 locs1 → W p l e R s m args below meth c H1 locs1 cells slots Q (F0 m (pc + 3) ls st)) : W p l e R s m args below meth c H locs cells slots Q (F0 m pc ls (v :: rv a o :: st)) := by
  obtain ⟨C, T0, N0, hc, hkN, hw, hfin, hty, hown⟩ := fi
  obtain ⟨hin, ⟨ty0, hty0⟩, hnm, hlen⟩ := cl_ok ci C T0 N0 hc
  have hts := hF.2.2.2.2.1
  have hK := hF.2.2.2.2.2.2.2.2.1
  have he := ob_get (a := a) (h := h) ho
  have hap := va_apart (own := M.1.cls) hts hin ty0 hty0 hnm hK hc
  obtain ⟨r, h1, cell, q1, q2, q3, q4⟩ := hP.1 o _ he
  have hr : r = (C, T0, N0) := Option.some.inj (h1.symm.trans hc)
  subst hr
  obtain ⟨hSl, hfc, kC, hkC, hkind⟩ := hK.1 ci _ hc
  obtain ⟨cf, kf, fi0, f, hi, hsl⟩ := hSl k hkN
  have hlay := hts _ (hin _ (u_in_lay hkN))
  have hst := (u_facts hfc hkC (u_lays hts hin hkN) hi).1
  have hl : k < (fvL a S h o ci).length := by rw [fv_len, hlen]; exact hkN
  unfold u_lay at hlay
  cases fin with
  | false =>
    rw [if_neg (by rw [hfin]; decide)] at hlay
    have h6 := u_store hfc hkC hkind hlay hi hty hn hf
    refine W.putK hF.1 hF.2.1 (f := f) ⟨hF.2.2.2.1, hts _ hw, ⟨_, _, _, hi⟩, hst⟩ (by rw [q2]; exact h6) q1 q3 (by rw [hsl]; exact k2_hasslot (q4 k hkN)) rfl rfl hd fun H' e1 e2 e3 => ?_
    rw [hsl] at e1 ⊢
    exact K H' _ (hP.1.set ws_D he ⟨_, hc, t_OB.to (V := updV (vp_V (fvL a S h o ci)) k v) ⟨_, e1, q2, q3, t_set q4 hap hkN v⟩ (fun j _ => vp_updV_set hl v j)⟩ e3) e2 (hS.put e2 e3 (ws_D.2 o _ he))
  | true =>
    rw [if_pos hfin] at hlay
    have hin2 : meth.name = "<init>" := by
      rcases hfin0 with q | q
      · cases q
      · rw [hF.2.2.2.2.2.2.2.1]; exact q
    have hcf : m.cls = cf := by
      obtain ⟨_, _, c', _, _, _, -, -, hf', -, -, -, hown2, -⟩ := Cond.laysFinal_spec hlay
      have e1 : c' = cf := by have := hi.symm.trans hf'; simp at this; exact this.1.symm
      rw [hown] at hown2
      rw [← e1]; exact Option.some.inj (hF.2.2.2.1.symm.trans hown2)
    have h6 := u_fits hfc hkC hkind (Or.inr hlay) hi hty hn hf
    refine W.putFinK hF.1 hF.2.1 hF.2.2.2.1 (hts _ hw) hi hst hcf hin2 (by rw [q2]; exact h6) q1 q3 (by rw [hsl]; exact k2_hasslot (q4 k hkN)) rfl rfl hd fun H' e1 e2 e3 => ?_
    rw [hsl] at e1 ⊢
    exact K H' _ (hP.1.set ws_D he ⟨_, hc, t_OB.to (V := updV (vp_V (fvL a S h o ci)) k v) ⟨_, e1, q2, q3, t_set q4 hap hkN v⟩ (fun j _ => vp_updV_set hl v j)⟩ e3) e2 (hS.put e2 e3 (ws_D.2 o _ he))
theorem tr_putI {o ci N k idx : Nat} {ty : FieldType} {x : Int32} (hd : decode M.2.1 pc = .ok (.putfield idx, 3)) (ho : S.1[o]? = some (ci + 3, N)) (fi : FI M.1.cls idx ci k false ty) (hk : (fkT.getD ci [])[k]? = some false) (hn : narrow ty (.int x) = .int x) (hf : fits ty (.int x) = true) (kk : T a d M (pc + 3) lv st S (hs h o (upd (h o) k x)) post) : T a d M pc lv (.int x :: rv a o :: st) S h post := by
  refine t_goH rfl (fun p l e R s m args below meth c H locs cells slots ls Q hF hd1 hd2 hl hP hS K => ?_) kk
  refine w_put hF hP hS hd ho fi (Or.inl rfl) hn hf (fun H1 locs1 hP1 hz hS1 => K H1 locs1 ⟨?_, by rw [hz]; exact hP.2⟩ hS1)
  rw [fv_setI hk, ws_set (a := a) (S := S) (h := h) (S' := S) (h' := hs h o (upd (h o) k x)) (e' := .inr (ci, fvL a S (hs h o (upd (h o) k x)) o ci)) rfl ho rfl (fun j hj => ⟨hs_ne hj, rfl⟩)] at hP1
  exact hP1
theorem tr_putR {o ci N k idx q : Nat} {fin : Bool} {ty : FieldType} (hd : decode M.2.1 pc = .ok (.putfield idx, 3)) (ho : S.1[o]? = some (ci + 3, N)) (fi : FI M.1.cls idx ci k fin ty) (hk : (fkT.getD ci [])[k]? = some true) (hfin : fin = false ∨ M.1.name = "<init>") (hn : ∀ q : Nat, narrow ty (.ref q) = .ref q) (hf : ∀ q : Nat, fits ty (.ref q) = true) (kk : T a d M (pc + 3) lv st (S.1, gs S.2 o (va_up (S.2 o) k (some q))) h post) : T a d M pc lv (rv a q :: rv a o :: st) S h post := by
  refine t_goH (S1 := (S.1, gs S.2 o (va_up (S.2 o) k (some q)))) rfl (fun p l e R s m args below meth c H locs cells slots ls Q hF hd1 hd2 hl hP hS K => ?_) kk
  refine w_put hF hP hS hd ho fi hfin (hn _) (hf _) (fun H1 locs1 hP1 hz hS1 => K H1 locs1 ⟨?_, by rw [hz]; exact hP.2⟩ hS1)
  rw [show rv a q = Value.ref (aN a + q) from rfl, fv_setR hk, ws_set (a := a) (S := S) (h := h) (S' := (S.1, gs S.2 o (va_up (S.2 o) k (some q)))) (h' := h) (e' := .inr (ci, fvL a (S.1, gs S.2 o (va_up (S.2 o) k (some q))) h o ci)) rfl ho rfl (fun j hj => ⟨rfl, gs_ne hj⟩)] at hP1
  exact hP1
theorem tr_iald {o n : Nat} {x v : Int32} (j : Nat) (hd : decode M.2.1 pc = .ok (.iaload, 1)) (ho : S.1[o]? = some (0, n)) (hx : x = nI j) (hj : j < n) (hn : n < 2 ^ 31) (hv : h o j = v) (kk : T a d M (pc + 1) lv (.int v :: st) S h post) : T a d M pc lv (.int x :: rv a o :: st) S h post := by
  subst hv; subst hx
  refine t_go (fun p l e R s m args below meth c H locs cells slots ls Q hF hd1 hd2 hc1 hc2 hl hP hS K => ?_) kk
  refine va_iald hF.1 hF.2.1 hF.2.2.2.2.2.2.2.2.1 hP.1 o 0 (ws_get ho) rfl (vp_in_nI hj hn) hd ?_
  rw [nI_clamp (by omega)]
  exact K
theorem tr_bald {o n : Nat} {x v : Int32} (j : Nat) (hd : decode M.2.1 pc = .ok (.baload, 1)) (ho : S.1[o]? = some (1, n)) (hx : x = nI j) (hj : j < n) (hn : n < 2 ^ 31) (hv : h o j = v) (kk : T a d M (pc + 1) lv (.int v :: st) S h post) : T a d M pc lv (.int x :: rv a o :: st) S h post := by
  subst hv; subst hx
  refine t_go (fun p l e R s m args below meth c H locs cells slots ls Q hF hd1 hd2 hc1 hc2 hl hP hS K => ?_) kk
  refine va_bald hF.1 hF.2.1 hF.2.2.2.2.2.2.2.2.1 hP.1 o 1 (ws_get ho) rfl (vp_in_nI hj hn) hd ?_
  rw [nI_clamp (by omega)]
  exact K
theorem tr_iast {o n : Nat} {x v : Int32} (j : Nat) (hd : decode M.2.1 pc = .ok (.iastore, 1)) (ho : S.1[o]? = some (0, n)) (hx : x = nI j) (hj : j < n) (hn : n < 2 ^ 31) (kk : T a d M (pc + 1) lv st S (hs h o (upd (h o) j v)) post) : T a d M pc lv (.int v :: .int x :: rv a o :: st) S h post := by
  subst hx
  refine t_goH rfl (fun p l e R s m args below meth c H locs cells slots ls Q hF hd1 hd2 hl hP hS K => ?_) kk
  have ha : (wsOf a S h)[o]? = some (aN a + o, .inl (a.2.1.1, n, .inl (h o))) := ws_get ho
  refine W.iast hF.1 hF.2.1 (hP.1 o _ ha) ((hF.2.2.2.2.2.2.2.2.1.2 0 _ rfl).1 n (fun j => .int (h o j))) (fun q => by cases q) (by show ¬ (_ < 0 ∨ (arrV _ _ _).slots.size ≤ _); rw [arrV_size]; exact vp_in_nI hj hn) rfl rfl hd fun H1 e1 z oq => ?_
  have hP1 := hP.1.set (e := .inl (a.2.1.1, n, .inl (upd (h o) j v))) ws_D ha (by
    show H1[_]? = some (vp_cell _ _)
    rw [e1, vp_cell_i, vp_cell_i, arrV_store, nI_clamp (by omega)]
    congr 2
    funext q
    by_cases hq : q = j
    · subst hq; simp [updV, upd]
    · simp [updV, upd, hq]) oq
  rw [ws_set (S' := S) (h' := hs h o (upd (h o) j v)) rfl ho (by show Sum.inl _ = Sum.inl _; rw [hs_same]) (fun j hj => ⟨hs_ne hj, rfl⟩)] at hP1
  exact K H1 _ ⟨hP1, by rw [z]; exact hP.2⟩ (hS.put z oq (ws_D.2 o _ ha))
theorem tr_bast {o n : Nat} {x v : Int32} (j : Nat) (hd : decode M.2.1 pc = .ok (.bastore, 1)) (ho : S.1[o]? = some (1, n)) (hx : x = nI j) (hj : j < n) (hn : n < 2 ^ 31) (kk : T a d M (pc + 1) lv st S (hs h o (upd (h o) j (vp_nar .byte v))) post) : T a d M pc lv (.int v :: .int x :: rv a o :: st) S h post := by
  subst hx
  refine t_goH rfl (fun p l e R s m args below meth c H locs cells slots ls Q hF hd1 hd2 hl hP hS K => ?_) kk
  have ha : (wsOf a S h)[o]? = some (aN a + o, .inl (a.2.1.2.1, n, .inl (h o))) := ws_get ho
  refine W.bast hF.1 hF.2.1 (hP.1 o _ ha) ((hF.2.2.2.2.2.2.2.2.1.2 1 _ rfl).1 n (fun j => .int (h o j))) (fun q => by cases q) (by show ¬ (_ < 0 ∨ (arrV _ _ _).slots.size ≤ _); rw [arrV_size]; exact vp_in_nI hj hn) rfl rfl hd fun H1 e1 z oq => ?_
  have hP1 := hP.1.set (e := .inl (a.2.1.2.1, n, .inl (upd (h o) j (vp_nar .byte v)))) ws_D ha (by
    show H1[_]? = some (vp_cell _ _)
    rw [e1, vp_cell_i, vp_cell_i, arrV_store, nI_clamp (by omega)]
    congr 2
    funext q
    by_cases hq : q = j
    · subst hq
      simp [updV, upd, vp_nar]
      try rfl
    · simp [updV, upd, hq]) oq
  rw [ws_set (S' := S) (h' := hs h o (upd (h o) j (vp_nar .byte v))) rfl ho (by show Sum.inl _ = Sum.inl _; rw [hs_same]) (fun j hj => ⟨hs_ne hj, rfl⟩)] at hP1
  exact K H1 _ ⟨hP1, by rw [z]; exact hP.2⟩ (hS.put z oq (ws_D.2 o _ ha))
theorem tr_aald {o n q : Nat} {x : Int32} (j : Nat) (hd : decode M.2.1 pc = .ok (.aaload, 1)) (ho : S.1[o]? = some (2, n)) (hx : x = nI j) (hj : j < n) (hn : n < 2 ^ 31) (hv : S.2 o j = some q) (kk : T a d M (pc + 1) lv (rv a q :: st) S h post) : T a d M pc lv (.int x :: rv a o :: st) S h post := by
  subst hx
  refine t_go (fun p l e R s m args below meth c H locs cells slots ls Q hF hd1 hd2 hc1 hc2 hl hP hS K => ?_) kk
  refine va_aldq hF.1 hF.2.1 hF.2.2.2.2.2.2.2.2.1 hP.1 o 2 (ws_get ho) rfl (vp_in_nI hj hn) hd ?_
  rw [nI_clamp (by omega), hv]
  exact K
theorem tr_aast {o n q N : Nat} {x : Int32} (j : Nat) (hd : decode M.2.1 pc = .ok (.aastore, 1)) (ho : S.1[o]? = some (2, n)) (hx : x = nI j) (hj : j < n) (hn : n < 2 ^ 31) (hq : S.1[q]? = some (5, N)) (kk : T a d M (pc + 1) lv st (S.1, gs S.2 o (va_up (S.2 o) j (some q))) h post) : T a d M pc lv (rv a q :: .int x :: rv a o :: st) S h post := by
  subst hx
  refine t_goH (S1 := (S.1, gs S.2 o (va_up (S.2 o) j (some q)))) rfl (fun p l e R s m args below meth c H locs cells slots ls Q hF hd1 hd2 hl hP hS K => ?_) kk
  have ha : (wsOf a S h)[o]? = some (aN a + o, .inl (a.2.1.2.2, n, .inr (.inr (.inr (.inr (fun k => (S.2 o k).map (aN a + ·))))))) := ws_get ho
  have hv : (wsOf a S h)[q]? = some (aN a + q, .inr (2, fvL a S h q 2)) := ws_get hq
  have hK := hF.2.2.2.2.2.2.2.2.1
  have hc : vwC[2]? = some (RX2, TX2, 3) := rfl
  obtain ⟨r', hr', cellV, g1, g2, g3, -⟩ := hP.1 q _ hv
  have hcls := (hK.1 2 _ hc).2
  obtain ⟨kA, comp, k1, k2, k3, -⟩ := (hK.2 2 _ rfl).2
  have hcomp : comp = a.1.1 2 := Option.some.inj (k3.symm.trans hcls.1)
  subst hcomp
  obtain ⟨kC, hkC, -⟩ := hcls.2
  refine W.aast hF.1 hF.2.1 (hP.1 o _ ha) (fun q h => by cases h) (fun h => by cases h) k1 k2 rfl hkC ⟨nI_pos (by omega), by show _ < (arrV _ _ _).slots.size; rw [arrV_size, nI_clamp (by omega)]; exact hj⟩ g1 (fun q h => by rw [g3] at h; cases h) (by rw [g2]; exact hkC) (by rw [g2]; exact va_assign hcls) rfl rfl hd fun H1 e1 z oq => ?_
  have hP1 := hP.1.set (e := .inl (a.2.1.2.2, n, .inr (.inr (.inr (.inr (va_up (fun k => (S.2 o k).map (aN a + ·)) j (some (aN a + q)))))))) ws_D ha (by
    show H1[_]? = some (vp_cell _ _)
    rw [e1, vp_cell_q, vp_cell_q, arrV_store, nI_clamp (by omega)]
    congr 2
    funext w
    by_cases hw : w = j
    · subst hw; simp [updV, va_up, va_rf]
    · simp [updV, va_up, hw]) oq
  rw [ws_set (a := a) (S := S) (h := h) (S' := (S.1, gs S.2 o (va_up (S.2 o) j (some q)))) (h' := h) (e' := .inl (a.2.1.2.2, n, .inr (.inr (.inr (.inr (va_up (fun k => (S.2 o k).map (aN a + ·)) j (some (aN a + q)))))))) rfl ho (by
    show Sum.inl _ = Sum.inl _
    congr 7
    funext w
    show Option.map _ (gs S.2 o (va_up (S.2 o) j (some q)) o w) = _
    rw [gs_same]
    by_cases hw : w = j
    · subst hw; simp [va_up]
    · simp [va_up, hw]) (fun j hj => ⟨rfl, gs_ne hj⟩)] at hP1
  exact K H1 _ ⟨hP1, by rw [z]; exact hP.2⟩ (hS.put z oq (ws_D.2 o _ ha))
theorem tr_alenI {o n : Nat} {v : Int32} (hd : decode M.2.1 pc = .ok (.arraylength, 1)) (ho : S.1[o]? = some (0, n)) (hv : nI n = v) (kk : T a d M (pc + 1) lv (.int v :: st) S h post) : T a d M pc lv (rv a o :: st) S h post := t_go (fun p l e R s m args below meth c H locs cells slots ls Q hF hd1 hd2 hc1 hc2 hl hP hS K => va_alen hF.1 hF.2.1 hF.2.2.2.2.2.2.2.2.1 hP.1 o 0 (ws_get ho) rfl hv hd K) kk
theorem tr_sld {x v : Int32} (j : Nat) (hd : decode M.2.1 pc = .ok (.iaload, 1)) (hx : x = nI j) (hj : j < a.2.2.2.1.2.1) (hn : a.2.2.2.1.2.1 < 2 ^ 31) (hv : a.2.2.2.1.2.2 j = v) (kk : T a d M (pc + 1) lv (.int v :: st) S h post) : T a d M pc lv (.int x :: .ref a.2.2.2.1.1 :: st) S h post := by
  subst hv; subst hx
  refine t_go (fun p l e R s m args below meth c H locs cells slots ls Q hF hd1 hd2 hc1 hc2 hl hP hS K => ?_) kk
  obtain ⟨-, -, -, ⟨hX, hb⟩, hz, -⟩ := hF.2.2.2.2.2.2.2.2
  refine va_sld hF.1 hF.2.1 hX (by omega) (show ¬ aN a ≤ _ by omega) hS (vp_in_nI hj hn) hd ?_
  rw [nI_clamp (by omega)]
  exact K
theorem tr_slen (hd : decode M.2.1 pc = .ok (.arraylength, 1)) (kk : T a d M (pc + 1) lv (.int (nI a.2.2.2.1.2.1) :: st) S h post) : T a d M pc lv (.ref a.2.2.2.1.1 :: st) S h post := by
  refine t_go (fun p l e R s m args below meth c H locs cells slots ls Q hF hd1 hd2 hc1 hc2 hl hP hS K => ?_) kk
  obtain ⟨-, -, -, ⟨hX, hb⟩, hz, -⟩ := hF.2.2.2.2.2.2.2.2
  exact va_slen hF.1 hF.2.1 hX (by omega) (show ¬ aN a ≤ _ by omega) hS hd K

end ROWS
end
section
/-! ===== making, calling, returning ===== -/
theorem cl_def : ∀ (ci : Nat) (C : String) (T : u_T) (N : Nat), vwC[ci]? = some (C, T, N) → ∃ ty : Nat → FieldType, (∀ k, k < N → parseFieldDescriptor (T k).2.2.1 = some (ty k)) ∧ ∀ k, k < N → defaultValue (ty k) = (if (fkT.getD ci []).getD k false = true then Value.null else .int 0) := by
  intro ci C T N h
  match ci, h with
  | 0, h => cases h; exact ⟨tyX0, tyX0_ok, by decide +kernel⟩
  | 1, h => cases h; exact ⟨tyX1, tyX1_ok, by decide +kernel⟩
  | 2, h => cases h; exact ⟨tyX2, tyX2_ok, by decide +kernel⟩
  | 3, h => cases h; exact ⟨tyX3, tyX3_ok, by decide +kernel⟩
  | 4, h => cases h; exact ⟨tyX4, tyX4_ok, by decide +kernel⟩
  | 5, h => cases h; exact ⟨tyX5, tyX5_ok, by decide +kernel⟩
  | 6, h => cases h; exact ⟨tyX6, tyX6_ok, by decide +kernel⟩
  | 7, h => cases h; exact ⟨tyX7, tyX7_ok, by decide +kernel⟩
  | 8, h => cases h; exact ⟨tyX8, tyX8_ok, by decide +kernel⟩
  | 9, h => cases h; exact ⟨tyX9, tyX9_ok, by decide +kernel⟩
  | 10, h => cases h; exact ⟨tyX10, tyX10_ok, by decide +kernel⟩
  | k + 11, h => simp at h
section CALLS
variable {a : Am} {d : Nat} {M : Mt} {pc : Nat} {lv : List (Nat × Value)} {st : List Value} {S : St} {h : Hp} {post : Option Value → St → Hp → Prop}
/-- the state of the cells behind a making -/
abbrev nS (S : St) (kn : Nat × Nat) : St := (S.1 ++ [kn], gs S.2 S.1.length (fun _ => none))
abbrev nH (S : St) (h : Hp) : Hp := hs h S.1.length (fun _ => 0)
theorem rep_push {H H1 : Heap} {kn : Nat × Nat} (hP : RepW a S h H) (z1 : H1.size = aN a + S.1.length + 1) (o1 : ∀ q, q < aN a + S.1.length → H1[q]? = H[q]?) (hat : va_at a.1 vwC (aN a + S.1.length, eOf a (nS S kn) (nH S h) S.1.length kn) H1) : RepW a (nS S kn) (nH S h) H1 := by
  refine ⟨?_, by rw [z1]; simp; omega⟩
  rw [ws_push (h := h) (fun j hj => ⟨hs_ne (by omega), gs_ne (by omega)⟩)]
  refine (hP.1.kept (fun k x hx => o1 _ ?_)).app (fun k x hx => ?_)
  · have h1 := ws_addr hx
    omega
  · have hz : k < 1 := (List.getElem?_eq_some_iff.mp hx).1
    rw [show k = 0 by omega] at hx
    cases hx
    exact hat
theorem s_push {s : State} {H H1 : Heap} {locs : List Loc} (hP : RepW a S h H) (hS : va_S (aA a) s.heap H locs) (z1 : H1.size = aN a + S.1.length + 1) (o1 : ∀ q, q < aN a + S.1.length → H1[q]? = H[q]?) : va_S (aA a) s.heap H1 locs := by
  have h1 := hS.1
  have h2 := hP.2
  exact ⟨by omega, fun x g1 g2 => (o1 x (by omega)).trans (hS.2.1 x g1 g2), hS.2.2⟩
theorem tr_newI {n : Nat} {x : Int32} (hd : decode M.2.1 pc = .ok (.newarray .int, 2)) (hx : x = nI n) (hn : n ≤ 1000000) (kk : T a d M (pc + 2) lv (rv a S.1.length :: st) (nS S (0, n)) (nH S h) post) : T a d M pc lv (.int x :: st) S h post := by
  subst hx
  refine t_goA (kn := (0, n)) rfl (fun p l e R s m args below meth c H locs cells slots ls Q hF hc1 hc2 hl hP hS K => ?_) kk
  refine va_newaK hF.1 hF.2.1 (atype := .int) (hF.2.2.2.2.1 _ ac_int) rfl hd rfl (nI_pos (by omega)) (nI_clamp (by omega)) (by show n * 4 ≤ _; omega) hc1 hc2 hP.2 fun H1 cA e1 z1 o1 hAr hNm => ?_
  have hcA : cA = a.2.1.1 := Option.some.inj (hNm.symm.trans (hF.2.2.2.2.2.2.2.2.1.2 0 _ rfl).2)
  subst hcA
  refine K H1 (rep_push hP z1 o1 ?_) (s_push hP hS z1 o1)
  show H1[_]? = some (vp_cell _ (n, .inl (hs h S.1.length (fun _ => 0) S.1.length)))
  rw [hs_same]
  exact e1
theorem tr_newB {n : Nat} {x : Int32} (hd : decode M.2.1 pc = .ok (.newarray .byte, 2)) (hx : x = nI n) (hn : n ≤ 1000000) (kk : T a d M (pc + 2) lv (rv a S.1.length :: st) (nS S (1, n)) (nH S h) post) : T a d M pc lv (.int x :: st) S h post := by
  subst hx
  refine t_goA (kn := (1, n)) rfl (fun p l e R s m args below meth c H locs cells slots ls Q hF hc1 hc2 hl hP hS K => ?_) kk
  refine va_newaK hF.1 hF.2.1 (atype := .byte) (hF.2.2.2.2.1 _ ac_byte) rfl hd rfl (nI_pos (by omega)) (nI_clamp (by omega)) (by show n * 1 ≤ _; omega) hc1 hc2 hP.2 fun H1 cA e1 z1 o1 hAr hNm => ?_
  have hcA : cA = a.2.1.2.1 := Option.some.inj (hNm.symm.trans (hF.2.2.2.2.2.2.2.2.1.2 1 _ rfl).2)
  subst hcA
  refine K H1 (rep_push hP z1 o1 ?_) (s_push hP hS z1 o1)
  show H1[_]? = some (vp_cell _ (n, .inl (hs h S.1.length (fun _ => 0) S.1.length)))
  rw [hs_same]
  exact e1
theorem tr_newQ {n idx : Nat} {x : Int32} (hd : decode M.2.1 pc = .ok (.anewarray idx, 3)) (hw : Cond.classLink M.1.cls idx RX2 ∈ gtbl) (hx : x = nI n) (hn : n ≤ 1000000) (kk : T a d M (pc + 3) lv (rv a S.1.length :: st) (nS S (2, n)) (nH S h) post) : T a d M pc lv (.int x :: st) S h post := by
  subst hx
  refine t_goA (kn := (2, n)) rfl (fun p l e R s m args below meth c H locs cells slots ls Q hF hc1 hc2 hl hP hS K => ?_) kk
  have hcl : (nI n).toNatClampNeg = n := nI_clamp (by omega)
  refine W.anew hF.1 hF.2.1 hF.2.2.2.1 (hF.2.2.2.2.1 _ hw) (va_AO.use hF.2.2.2.2.2.2.2.2.2.2.1) rfl hd rfl (nI_pos (by omega)) (by rw [hcl]; omega) hc1 (by rw [hcl]; exact hc2) fun cA kA comp f1 f2 f3 f4 => ?_
  have hcA : cA = a.2.1.2.2 := by
    obtain ⟨_, _, _, _, _, q4⟩ := (hF.2.2.2.2.2.2.2.2.1.2 2 _ rfl).2
    exact Option.some.inj (f1.symm.trans q4)
  subst hcA
  rw [hcl]
  generalize hH1 : H.push ({ cls := a.2.1.2.2, slots := Array.replicate n .null, vm := .none } : Cell) = H1
  have z1 : H1.size = aN a + S.1.length + 1 := by rw [← hH1, Array.size_push, hP.2]
  have e1 : H1[aN a + S.1.length]? = some (arrV a.2.1.2.2 n (fun _ => .null)) := by rw [← hH1, ← hP.2, Array.getElem?_push_size, ← arrV_new]
  have o1 : ∀ q : Nat, q < aN a + S.1.length → H1[q]? = H[q]? := fun q hq => by rw [← hH1, Array.getElem?_push, if_neg (by rw [hP.2]; omega)]
  have K2 := K H1 (rep_push hP z1 o1 (by
    show H1[_]? = some (vp_cell _ _)
    rw [vp_cell_q, e1]
    congr 2
    funext j
    show Value.null = va_rf (Option.map _ (gs S.2 S.1.length (fun _ => none) S.1.length j))
    rw [gs_same]
    rfl)) (s_push hP hS z1 o1)
  rw [hP.2]
  exact K2
theorem tr_new {ci N idx : Nat} {C : String} {T0 : u_T} (hd : decode M.2.1 pc = .ok (.new idx, 3)) (hc : vwC[ci]? = some (C, T0, N)) (hw : Cond.classLink M.1.cls idx C ∈ gtbl) (hw2 : Cond.instantiable C N ∈ gtbl) (hw3 : Cond.initialized C ∈ gtbl) (kk : T a d M (pc + 3) lv (rv a S.1.length :: st) (nS S (ci + 3, N)) (nH S h) post) : T a d M pc lv st S h post := by
  refine t_goA (kn := (ci + 3, N)) rfl (fun p l e R s m args below meth c H locs cells slots ls Q hF hc1 hc2 hl hP hS K => ?_) kk
  have hts := hF.2.2.2.2.1
  have hKn := hF.2.2.2.2.2.2.2.2.1.1 ci _ hc
  refine W.newcK hF.1 hF.2.1 hF.2.2.2.1 (hts _ hw) (hts _ hw2) (hts _ hw3) rfl hd hc1 hc2 hKn.2.1 hP.2 fun H1 kC hkC e1 z1 o1 => ?_
  refine K H1 (rep_push hP z1 o1 ?_) (s_push hP hS z1 o1)
  obtain ⟨ty, hty, hdef⟩ := cl_def ci C T0 N hc
  refine ⟨_, hc, (u_born ty hts (cl_ok ci C T0 N hc).1 hKn hkC e1 hty).to (fun j hj => ?_)⟩
  have hlen : (fkT.getD ci []).length = N := (cl_ok ci C T0 N hc).2.2.2
  have hj2 : j < (fkT.getD ci []).length := by rw [hlen]; exact hj
  show defaultValue (ty j) = (fvL a (nS S (ci + 3, N)) (nH S h) S.1.length ci).getD j .null
  have g1 : (fkT.getD ci []).getD j false = (fkT.getD ci [])[j] := by rw [List.getD_eq_getElem?_getD (l := fkT.getD ci []) (i := j), List.getElem?_eq_getElem hj2]; rfl
  have g2 : (fvL a (nS S (ci + 3, N)) (nH S h) S.1.length ci).getD j .null = (if (fkT.getD ci [])[j] = true then va_rf (Option.map (aN a + ·) (gs S.2 S.1.length (fun _ => none) S.1.length j)) else .int (hs h S.1.length (fun _ => 0) S.1.length j)) := by
    rw [List.getD_eq_getElem?_getD, fv_get (List.getElem?_eq_getElem hj2)]; rfl
  rw [hdef j hj, g1, g2]
  show (if (fkT.getD ci [])[j] = true then Value.null else .int 0) = if (fkT.getD ci [])[j] = true then va_rf (Option.map (aN a + ·) (gs S.2 S.1.length (fun _ => none) S.1.length j)) else .int (hs h S.1.length (fun _ => 0) S.1.length j)
  rw [gs_same, hs_same]
  rfl
theorem good_g {M' : Mt} (h : Cond.code M'.1 M'.2.1 M'.2.2.1 M'.2.2.2 ∈ gtbl) : GoodIn gtbl (Cond.code M'.1 M'.2.1 M'.2.2.1 M'.2.2.2 :: gtbl) := by
  intro w hw
  rcases List.mem_cons.mp hw with rfl | hw
  · exact ⟨h, gw_good _ h⟩
  · exact ⟨hw, gw_good _ hw⟩
theorem blind_p {as : List Value} : FrameBlind (va_Pc as (fun U => Px a U ∧ RepW a S h U.heap)) := fun _ _ _ _ q => ⟨q.1, q.2.1.call, q.2.2⟩
theorem pre_p {s U : State} {H : Heap} {locs : List Loc} {as : List Value} (hx : Px a s) (hP : RepW a S h H) (hS : va_S (aA a) s.heap H locs) (hU : U.heap = H) (hW : s.WarmedH U.vm) : va_Pc as (fun U => Px a U ∧ RepW a S h U.heap) as.toArray U := by
  subst hU
  exact ⟨rfl, hx.move hW hS, hP⟩
/-- behind a call -/
theorem w_back {p : Program} {l : Launch} {e : Env} {R : Room} {s : State} {m : MethodId} {args : Array Value} {below : List Frame} {meth : Method} {c : Code} {H : Heap} {locs : List Loc} {cells slots : Nat} {Q : State → Prop} {mc ms : Nat} {ls : Array Slot} {stk rest : List Value} {v : Option Value} {S1 : St} {h1 : Hp} {aa : Array Value}
    (hr : va_Run p l e R s m args below meth c H locs cells slots mc ms (F0 m pc ls stk) rest (Qx a v S1 h1 aa) (aA a)) (hS : va_S (aA a) s.heap H locs)
    (K : ∀ H1 locs1, RepW a S1 h1 H1 → va_S (aA a) s.heap H1 locs1 → W p l e R s m args below meth c H1 locs1 (cells + mc) (slots + ms) Q (F0 m (pc + 3) ls (v.toList ++ rest))) : W p l e R s m args below meth c H locs cells slots Q (F0 m pc ls stk) := by
  intro T hT X
  obtain ⟨v', st₀, t, T', L, h0, X', hL, e1, e2, ⟨hv, hRep, hz, hk⟩, st⟩ := hr T hT X
  have hv' : v' = v := by injection hv
  subst hv'
  rw [h0] at hz hk
  obtain ⟨t2, a1, b1⟩ := K T'.heap (locs ++ L) (by rw [e1]; exact hRep) ⟨Nat.le_trans hS.1 (by rw [e1]; exact hz), fun q g1 g2 => by rw [e1, hk q (Nat.lt_of_lt_of_le g1 hS.1) g2]; exact hS.2.1 q g1 g2, fun q hq => by
      rcases List.mem_append.mp hq with w | w
      · exact hS.2.2 q w
      · exact hL q w⟩ T' rfl X'
  exact ⟨t2, st t2 a1, b1⟩
/-- a call's place in the accounts -/
theorem t_goC {d' : Nat} {M' : Mt} {as rest stk : List Value} {post1 : Option Value → St → Hp → Prop} (hc : CT a d' M' as S h post1)
    (run : ∀ (v : Option Value) (S1 : St) (h1 : Hp), Cn a d' M' as S h v S1 h1 → ∀ (p : Program) (l : Launch) (e : Env) (R : Room) (s : State) (m : MethodId) (args : Array Value) (below : List Frame) (meth : Method) (c : Code) (H : Heap) (locs : List Loc) (cells slots : Nat) (ls : Array Slot), Fx a M p s m args meth c → d ≤ R.frames → 40 * d ≤ R.locals → cells + (S1.1.length - S.1.length) ≤ R.cells → slots + (tot S1 - tot S) ≤ R.slots → lv_has ls M.2.2.1 lv → RepW a S h H → va_S (aA a) s.heap H locs → ∃ aa, va_Run p l e R s m args below meth c H locs cells slots (S1.1.length - S.1.length) (tot S1 - tot S) (F0 m pc ls stk) rest (Qx a v S1 h1 aa) (aA a))
    (kk : ∀ v S1 h1, post1 v S1 h1 → T a d M (pc + 3) lv (v.toList ++ rest) S1 h1 post) : T a d M pc lv stk S h post := by
  obtain ⟨v, S1, h1, hp1, hC⟩ := hc
  obtain ⟨v2, S', h', hp, hg, hE⟩ := kk v S1 h1 hp1
  have hg1 := hC.1
  refine ⟨v2, S', h', hp, hg1.trans hg, ?_⟩
  intro p l e R s m args below meth c H locs cells slots ls hF d1 d2 d3 d4 hl hP hS
  obtain ⟨g1, g2⟩ := hg1
  obtain ⟨g3, g4⟩ := hg
  obtain ⟨aa, hr⟩ := run v S1 h1 hC p l e R s m args below meth c H locs cells slots ls hF d1 d2 (by omega) (by omega) hl hP hS
  refine w_back hr hS (fun H1 locs1 hP1 hS1 => ?_)
  have K := hE p l e R s m args below meth c H1 locs1 (cells + (S1.1.length - S.1.length)) (slots + (tot S1 - tot S)) ls hF d1 d2 (by omega) (by omega) hl hP1 hS1
  rw [show cells + (S1.1.length - S.1.length) + (S'.1.length - S1.1.length) = cells + (S'.1.length - S.1.length) by omega, show slots + (tot S1 - tot S) + (tot S' - tot S1) = slots + (tot S' - tot S) by omega] at K
  exact K
def CV (M' : Mt) (n : Nat) : Prop := MOk M' n ∧ MInst M' ∧ MSel M' ∧ M'.2.2.1 ≤ 21
def CS (M' : Mt) (n : Nat) : Prop := MOk M' n ∧ MStat M' ∧ M'.2.2.1 ≤ 21
def CI (M' : Mt) (n : Nat) : Prop := MOk M' n ∧ MInst M' ∧ M'.2.2.1 ≤ 21 ∧ M'.1.name = "<init>" ∧ M'.2.2.2 = none
theorem tr_callV {d' n o ci N idx : Nat} {M' : Mt} {as rest stk : List Value} {post1 : Option Value → St → Hp → Prop} (hd : decode M.2.1 pc = .ok (.invokevirtual idx, 3)) (hl0 : Cond.methodLink M.1.cls idx M'.1 ∈ gtbl) (hm : CV M' n) (hst : stk = as.reverse ++ rv a o :: rest) (hn : as.length = n) (hcat : (rest.map fun v => v.category).sum ≤ 8) (ho : S.1[o]? = some (ci + 3, N)) (hci : (vwC[ci]?).map (·.1) = some M'.1.cls) (hdd : d' < d) (hc : CT a d' M' (rv a o :: as) S h post1)
    (kk : ∀ v S1 h1, post1 v S1 h1 → T a d M (pc + 3) lv (v.toList ++ rest) S1 h1 post) : T a d M pc lv stk S h post := by
  refine t_goC hc ?_ kk
  intro v S1 h1 hC p l e R s m args below meth c H locs cells slots ls hF d1 d2 d3 d4 hl hP hS
  obtain ⟨⟨w1, w2, w3, w4⟩, w5, w6, w7⟩ := hm
  have hts := hF.2.2.2.2.1
  have hK := hF.2.2.2.2.2.2.2.2.1
  obtain ⟨q, hq, hq1⟩ : ∃ q, vwC[ci]? = some q ∧ q.1 = M'.1.cls := by
    cases hx : vwC[ci]? with
    | none => rw [hx] at hci; cases hci
    | some q => rw [hx] at hci; exact ⟨q, rfl, Option.some.inj hci⟩
  have hcw : CallW R s args M.1.cls M'.1.cls idx M'.1 M'.2.1 M'.2.2.1 M'.2.2.2 (Cond.code M'.1 M'.2.1 M'.2.2.1 M'.2.2.2 :: gtbl) { frames := d', cells := S1.1.length - S.1.length, slots := tot S1 - tot S, locals := 40 * d' } (S1.1.length - S.1.length) (tot S1 - tot S) n :=
    ⟨callB_of n hts (good_g w1) rfl rfl rfl (hts _ w2) (hts _ hl0) w3 ⟨by show d' + 1 ≤ _; omega, by show 8 + (M'.2.2.1 + 11) + 40 * d' ≤ _; omega⟩, hts _ w5, hts _ w6⟩
  refine ⟨_, va_runV (As := as) (rest := rest) (b := aN a + o) ⟨hF.1, hF.2.1, hF.2.2.1, hF.2.2.2.1, hts⟩ (hC.2 l) hcw ⟨blind_p, ?_, fun U hU hW => pre_p hF.2.2.2.2.2.2.2.2 hP hS hU hW⟩ rfl hn hl.1 hst (lv_room (rest := stk) hcat) hd ⟨d3, d4⟩⟩
  have hrec := va_recv hK hP.1 hq (ob_get (a := a) (h := h) ho)
  rw [hq1] at hrec
  exact hrec
theorem tr_callS {d' n idx : Nat} {M' : Mt} {as rest stk : List Value} {post1 : Option Value → St → Hp → Prop} (hd : decode M.2.1 pc = .ok (.invokestatic idx, 3)) (hl0 : Cond.methodLink M.1.cls idx M'.1 ∈ gtbl) (hm : CS M' n) (hst : stk = as.reverse ++ rest) (hn : as.length = n) (hcat : (rest.map fun v => v.category).sum ≤ 8) (hdd : d' < d) (hc : CT a d' M' as S h post1)
    (kk : ∀ v S1 h1, post1 v S1 h1 → T a d M (pc + 3) lv (v.toList ++ rest) S1 h1 post) : T a d M pc lv stk S h post := by
  refine t_goC hc ?_ kk
  intro v S1 h1 hC p l e R s m args below meth c H locs cells slots ls hF d1 d2 d3 d4 hl hP hS
  obtain ⟨⟨w1, w2, w3, w4⟩, w5, w7⟩ := hm
  have hts := hF.2.2.2.2.1
  have hcw : CallB R s args M.1.cls idx M'.1 M'.2.1 M'.2.2.1 M'.2.2.2 (Cond.code M'.1 M'.2.1 M'.2.2.1 M'.2.2.2 :: gtbl) { frames := d', cells := S1.1.length - S.1.length, slots := tot S1 - tot S, locals := 40 * d' } (S1.1.length - S.1.length) (tot S1 - tot S) n :=
    callB_of n hts (good_g w1) rfl rfl rfl (hts _ w2) (hts _ hl0) w3 ⟨by show d' + 1 ≤ _; omega, by show 8 + (M'.2.2.1 + 11) + 40 * d' ≤ _; omega⟩
  exact ⟨_, va_runS (As := as) (rest := rest) ⟨hF.1, hF.2.1, hF.2.2.1, hF.2.2.2.1, hts⟩ (hC.2 l) ⟨hcw, hts _ w5⟩ ⟨blind_p, fun U hU hW => pre_p hF.2.2.2.2.2.2.2.2 hP hS hU hW⟩ rfl hn hl.1 hst (lv_room (rest := stk) hcat) hd ⟨d3, d4⟩⟩
theorem cn_B {R : Room} {s : State} {args : Array Value} {n idx d' : Nat} {own host : String} {M' : Mt} {mc ms : Nat} (hts : ∀ w ∈ gtbl, w.before args s = true) (hx : Px a s) (hl0 : (own, idx, M'.1, host) ∈ nestL) (hm : MOk M' n) (h7 : M'.2.2.1 ≤ 21) (hdd : d' < d) (d1 : d ≤ R.frames) (d2 : 40 * d ≤ R.locals) : va_CN R s args own idx M'.1 host M'.2.1 M'.2.2.1 M'.2.2.2 (Cond.code M'.1 M'.2.1 M'.2.2.1 M'.2.2.2 :: gtbl) { frames := d', cells := mc, slots := ms, locals := 40 * d' } mc ms n := by
  obtain ⟨w1, w2, w3, w4⟩ := hm
  exact va_cnB n hts (good_g w1) rfl rfl rfl (hx.2.1 _ hl0) (hts _ w2) w3 ⟨by show d' + 1 ≤ _; omega, by show 8 + (M'.2.2.1 + 11) + 40 * d' ≤ _; omega⟩
theorem tr_callSN {d' n idx : Nat} {host : String} {M' : Mt} {as rest stk : List Value} {post1 : Option Value → St → Hp → Prop} (hd : decode M.2.1 pc = .ok (.invokestatic idx, 3)) (hl0 : (M.1.cls, idx, M'.1, host) ∈ nestL) (hm : CS M' n) (hst : stk = as.reverse ++ rest) (hn : as.length = n) (hcat : (rest.map fun v => v.category).sum ≤ 8) (hdd : d' < d) (hc : CT a d' M' as S h post1)
    (kk : ∀ v S1 h1, post1 v S1 h1 → T a d M (pc + 3) lv (v.toList ++ rest) S1 h1 post) : T a d M pc lv stk S h post := by
  refine t_goC hc ?_ kk
  intro v S1 h1 hC p l e R s m args below meth c H locs cells slots ls hF d1 d2 d3 d4 hl hP hS
  have hts := hF.2.2.2.2.1
  have hx := hF.2.2.2.2.2.2.2.2
  exact ⟨_, va_runSN (As := as) (rest := rest) ⟨hF.1, hF.2.1, hF.2.2.1, hF.2.2.2.1, hts⟩ (hC.2 l) ⟨cn_B hts hx hl0 hm.1 hm.2.2 hdd d1 d2, hts _ hm.2.1, trivial⟩ ⟨blind_p, fun U hU hW => pre_p hx hP hS hU hW⟩ rfl hn hl.1 hst (lv_room (rest := stk) hcat) hd ⟨d3, d4⟩⟩
theorem tr_callI {d' n o idx : Nat} {M' : Mt} {as rest stk : List Value} {post1 : Option Value → St → Hp → Prop} (hd : decode M.2.1 pc = .ok (.invokespecial idx, 3)) (hl0 : Cond.methodLink M.1.cls idx M'.1 ∈ gtbl) (hm : CI M' n) (hst : stk = as.reverse ++ rv a o :: rest) (hn : as.length = n) (hcat : (rest.map fun v => v.category).sum ≤ 8) (hdd : d' < d) (hc : CT a d' M' (rv a o :: as) S h post1)
    (kk : ∀ v S1 h1, post1 v S1 h1 → T a d M (pc + 3) lv (v.toList ++ rest) S1 h1 post) : T a d M pc lv stk S h post := by
  refine t_goC hc ?_ kk
  intro v S1 h1 hC p l e R s m args below meth c H locs cells slots ls hF d1 d2 d3 d4 hl hP hS
  obtain ⟨⟨w1, w2, w3, w4⟩, w5, w7, w8, w9⟩ := hm
  have hts := hF.2.2.2.2.1
  have hcw : CallB R s args M.1.cls idx M'.1 M'.2.1 M'.2.2.1 M'.2.2.2 (Cond.code M'.1 M'.2.1 M'.2.2.1 M'.2.2.2 :: gtbl) { frames := d', cells := S1.1.length - S.1.length, slots := tot S1 - tot S, locals := 40 * d' } (S1.1.length - S.1.length) (tot S1 - tot S) n :=
    callB_of n hts (good_g w1) rfl rfl rfl (hts _ w2) (hts _ hl0) w3 ⟨by show d' + 1 ≤ _; omega, by show 8 + (M'.2.2.1 + 11) + 40 * d' ≤ _; omega⟩
  rw [w9] at hcw
  refine ⟨_, va_runI (As := as) (rest := rest) (b := aN a + o) ⟨hF.1, hF.2.1, hF.2.2.1, hF.2.2.2.1, hts⟩ (by have := hC.2 l; rw [w9] at this; exact this) ⟨hcw, w8, hts _ w5⟩ ⟨blind_p, fun U hU hW => pre_p hF.2.2.2.2.2.2.2.2 hP hS hU hW⟩ rfl hn hl.1 hst (lv_room (rest := stk) hcat) hd ⟨d3, d4⟩⟩
theorem tr_callIN {d' n o idx : Nat} {host : String} {M' : Mt} {as rest stk : List Value} {post1 : Option Value → St → Hp → Prop} (hd : decode M.2.1 pc = .ok (.invokespecial idx, 3)) (hl0 : (M.1.cls, idx, M'.1, host) ∈ nestL) (hm : CI M' n) (hst : stk = as.reverse ++ rv a o :: rest) (hn : as.length = n) (hcat : (rest.map fun v => v.category).sum ≤ 8) (hdd : d' < d) (hc : CT a d' M' (rv a o :: as) S h post1)
    (kk : ∀ v S1 h1, post1 v S1 h1 → T a d M (pc + 3) lv (v.toList ++ rest) S1 h1 post) : T a d M pc lv stk S h post := by
  refine t_goC hc ?_ kk
  intro v S1 h1 hC p l e R s m args below meth c H locs cells slots ls hF d1 d2 d3 d4 hl hP hS
  have hts := hF.2.2.2.2.1
  have hx := hF.2.2.2.2.2.2.2.2
  obtain ⟨w0, w5, w7, w8, w9⟩ := hm
  have hcn := cn_B (a := a) (R := R) (mc := S1.1.length - S.1.length) (ms := tot S1 - tot S) hts hx hl0 w0 w7 hdd d1 d2
  have hM := hC.2 l
  rw [w9] at hcn hM
  exact ⟨_, va_runIN (As := as) (rest := rest) (b := aN a + o) ⟨hF.1, hF.2.1, hF.2.2.1, hF.2.2.2.1, hts⟩ hM ⟨hcn, w8, hts _ w5⟩ ⟨blind_p, fun U hU hW => pre_p hx hP hS hU hW⟩ rfl hn hl.1 hst (lv_room (rest := stk) hcat) hd ⟨d3, d4⟩⟩
theorem tr_objInit {idx o : Nat} (hd : decode M.2.1 pc = .ok (.invokespecial idx, 3)) (hl0 : Cond.methodLink M.1.cls idx objectInit ∈ gtbl) (hcat : (st.map fun v => v.category).sum ≤ 8) (hdd : 0 < d) (kk : T a d M (pc + 3) lv st S h post) : T a d M pc lv (rv a o :: st) S h post := by
  refine t_go (fun p l e R s m args below meth c H locs cells slots ls Q hF hd1 hd2 hc1 hc2 hl hP hS K => ?_) kk
  have hts := hF.2.2.2.2.1
  exact W.objInit hF.1 hF.2.1 hF.2.2.2.1 (hts _ hl0) (hts _ oi_inst) (hts _ oi_code) rfl (by rw [hF.2.2.1]; exact hl.1) rfl hd (by omega) (by show 2 * 0 + _ + 12 ≤ _; omega) K
theorem tr_iret {x : Int32} {ty : FieldType} (hd : decode M.2.1 pc = .ok (.ireturn, 1)) (hr : M.2.2.2 = some ty) (hn : narrow ty (.int x) = .int x) (hp : post (some (.int x)) S h) : T a d M pc lv [.int x] S h post := by
  refine ⟨_, S, h, hp, Gr.rf, ?_⟩
  intro p l e R s m args below meth c H locs cells slots ls hF d1 d2 d3 d4 hl hP hS
  simp only [Nat.sub_self, Nat.add_zero]
  exact W.zret hF.1 hF.2.1 (hF.2.2.2.2.2.1.trans hr) hn (fun t ht hW => ⟨rfl, by rw [ht]; exact hP, hS.F ht⟩) hS.2.2 hd hF.2.2.2.2.2.2.1
theorem tr_vret (hd : decode M.2.1 pc = .ok (.return_, 1)) (hr : M.2.2.2 = none) (hp : post none S h) : T a d M pc lv [] S h post := by
  refine ⟨_, S, h, hp, Gr.rf, ?_⟩
  intro p l e R s m args below meth c H locs cells slots ls hF d1 d2 d3 d4 hl hP hS
  simp only [Nat.sub_self, Nat.add_zero]
  exact W.vret hF.1 hF.2.1 (hF.2.2.2.2.2.1.trans hr) (fun t ht hW => ⟨rfl, by rw [ht]; exact hP, hS.F ht⟩) hS.2.2 hd hF.2.2.2.2.2.2.1
theorem tr_lret {x : Int64} (hd : decode M.2.1 pc = .ok (.lreturn, 1)) (hr : M.2.2.2 = some .long) (hp : post (some (.long x)) S h) : T a d M pc lv [.long x] S h post := by
  refine ⟨_, S, h, hp, Gr.rf, ?_⟩
  intro p l e R s m args below meth c H locs cells slots ls hF d1 d2 d3 d4 hl hP hS
  simp only [Nat.sub_self, Nat.add_zero]
  exact W.lret hF.1 hF.2.1 (hF.2.2.2.2.2.1.trans hr) (fun t ht hW => ⟨rfl, by rw [ht]; exact hP, hS.F ht⟩) hS.2.2 hd hF.2.2.2.2.2.2.1
theorem tr_aret {o : Nat} {t : FieldType} (hd : decode M.2.1 pc = .ok (.areturn, 1)) (hr : M.2.2.2 = some (.array t)) (hp : post (some (rv a o)) S h) : T a d M pc lv [rv a o] S h post := by
  refine ⟨_, S, h, hp, Gr.rf, ?_⟩
  intro p l e R s m args below meth c H locs cells slots ls hF d1 d2 d3 d4 hl hP hS
  simp only [Nat.sub_self, Nat.add_zero]
  exact W.aret hF.1 hF.2.1 (hF.2.2.2.2.2.1.trans hr) (Or.inr ⟨_, rfl⟩) (Or.inr ⟨_, rfl⟩) (fun t ht hW => ⟨rfl, by rw [ht]; exact hP, hS.F ht⟩) hS.2.2 hd hF.2.2.2.2.2.2.1
theorem tr_max {idx : Nat} {x y v : Int32} (hd : decode M.2.1 pc = .ok (.invokestatic idx, 3)) (hl0 : Cond.methodLink M.1.cls idx Lib.Math.max.name ∈ gtbl) (hcat : (st.map fun v => v.category).sum ≤ 8) (hdd : 0 < d) (hv : (if x < y then y else x) = v) (kk : T a d M (pc + 3) lv (.int v :: st) S h post) : T a d M pc lv (.int y :: .int x :: st) S h post := by
  subst hv
  refine t_go (fun p l e R s m args below meth c H locs cells slots ls Q hF hd1 hd2 hc1 hc2 hl hP hS K => ?_) kk
  have hts := hF.2.2.2.2.1
  exact va_mmax hF.1 hF.2.1 (by rw [hF.2.2.1]; exact hl.1.symm) hF.2.2.2.1 (hts _ hl0) (hts _ mmax_st) (hts _ mth_ini) (hts _ mmax_code) (by omega) (by omega) hc1 hc2 hd K
theorem tr_min {idx : Nat} {x y v : Int32} (hd : decode M.2.1 pc = .ok (.invokestatic idx, 3)) (hl0 : Cond.methodLink M.1.cls idx Lib.Math.min.name ∈ gtbl) (hcat : (st.map fun v => v.category).sum ≤ 8) (hdd : 0 < d) (hv : (if y < x then y else x) = v) (kk : T a d M (pc + 3) lv (.int v :: st) S h post) : T a d M pc lv (.int y :: .int x :: st) S h post := by
  subst hv
  refine t_go (fun p l e R s m args below meth c H locs cells slots ls Q hF hd1 hd2 hc1 hc2 hl hP hS K => ?_) kk
  have hts := hF.2.2.2.2.1
  exact va_mmin hF.1 hF.2.1 (by rw [hF.2.2.1]; exact hl.1.symm) hF.2.2.2.1 (hts _ hl0) (hts _ mmin_st) (hts _ mth_ini) (hts _ mmin_code) (by omega) (by omega) hc1 hc2 hd K
theorem tr_acopy {idx o1 o2 n1 n2 : Nat} {x y z : Int32} (sp dp n : Nat) (hd : decode M.2.1 pc = .ok (.invokestatic idx, 3)) (hl0 : Cond.methodLink M.1.cls idx arraycopyName ∈ gtbl) (hcat : (st.map fun v => v.category).sum ≤ 4) (hdd : 0 < d) (ho1 : S.1[o1]? = some (0, n1)) (ho2 : S.1[o2]? = some (0, n2)) (hx : x = nI sp) (hy : y = nI dp) (hz : z = nI n) (h1 : sp + n ≤ n1) (h2 : dp + n ≤ n2) (hn1 : n1 < 2 ^ 31) (hn2 : n2 < 2 ^ 31) (kk : T a d M (pc + 3) lv st S (hs h o2 (va_cpy (h o1) (h o2) sp dp n)) post) : T a d M pc lv (.int z :: .int y :: rv a o2 :: .int x :: rv a o1 :: st) S h post := by
  subst hx; subst hy; subst hz
  refine t_goH rfl (fun p l e R s m args below meth c H locs cells slots ls Q hF hd1 hd2 hl hP hS K => ?_) kk
  have hts := hF.2.2.2.2.1
  have hK := hF.2.2.2.2.2.2.2.2.1
  have ha0 : (wsOf a S h)[o1]? = some (aN a + o1, .inl (a.2.1.1, n1, .inl (h o1))) := ws_get ho1
  have ha1 : (wsOf a S h)[o2]? = some (aN a + o2, .inl (a.2.1.1, n2, .inl (h o2))) := ws_get ho2
  have c1 : (nI sp).toNatClampNeg = sp := nI_clamp (by omega)
  have c2 : (nI dp).toNatClampNeg = dp := nI_clamp (by omega)
  have c3 : (nI n).toNatClampNeg = n := nI_clamp (by omega)
  intro T hT X
  have hc0 : H[aN a + o1]? = some (vp_cell a.2.1.1 (n1, .inl (h o1))) := hP.1 o1 _ ha0
  have hc1 : H[aN a + o2]? = some (vp_cell a.2.1.1 (n2, .inl (h o2))) := hP.1 o2 _ ha1
  obtain ⟨-, k0, hk0, cm0, hkk0⟩ := (hK.2 0 _ rfl).1 n1 (fun j => .int (h o1 j))
  obtain ⟨-, k1, hk1, cm1, hkk1⟩ := (hK.2 0 _ rfl).1 n2 (fun j => .int (h o2 j))
  obtain ⟨vm', X', step⟩ := X.arraycopy hF.1 hF.2.2.2.1 (hts _ hl0) (hts _ acp_nat) (hts _ acp_st) (hts _ ini_J10) (src := aN a + o1) (dst := aN a + o2) (cs := vp_cell a.2.1.1 (n1, .inl (h o1))) (cd := vp_cell a.2.1.1 (n2, .inl (h o2))) (srcPos := nI sp) (destPos := nI dp) (n := nI n) (by rw [hT]; exact hc0) (by rw [hT]; exact hc1)
    (fun _ h => by cases h) (fun _ h => by cases h) (fun h => by cases h) (fun h => by cases h) hk0 hk1 hkk0 hkk1 (by rfl) (nI_pos (by omega)) (nI_pos (by omega)) (nI_pos (by omega))
    (by rw [nI_toInt (by omega), nI_toInt (by omega)]; show ¬ _ > ((arrV _ n1 (fun j => .int (h o1 j))).slots.size : Int); rw [arrV_size]; omega)
    (by rw [nI_toInt (by omega), nI_toInt (by omega)]; show ¬ _ > ((arrV _ n2 (fun j => .int (h o2 j))).slots.size : Int); rw [arrV_size]; omega)
    (fun vm₁ _ i hi => by
      rw [c3] at hi
      have e : (vp_cell a.2.1.1 (n1, .inl (h o1))).slots.getD ((nI sp).toNatClampNeg + i) .null = .int (h o1 (sp + i)) := by
        rw [c1]
        show (arrV _ n1 (fun j => .int (h o1 j))).slots.getD _ _ = _
        rw [Array.getD_eq_getD_getElem?, arrV_read _ _ (by omega)]
        rfl
      refine ⟨?_, ?_⟩
      · rw [e]; rfl
      · rw [e]; exact trivial)
    (g := F0 m pc ls (.int (nI n) :: .int (nI dp) :: rv a o2 :: .int (nI sp) :: rv a o1 :: st)) rfl (by rw [hF.2.2.1]; exact hl.1) (rest := st) rfl (by rw [hF.2.1]; exact hd) (by omega) (by
      have hw : nativeFrameWords "java/lang/System" "arraycopy" 5 + 11 ≤ 36 := by decide +kernel
      show 2 * 0 + _ + _ ≤ _
      omega)
  have e1 : copied (vp_cell a.2.1.1 (n1, .inl (h o1))) (vp_cell a.2.1.1 (n2, .inl (h o2))) (nI sp) (nI dp) (nI n) = vp_cell a.2.1.1 (n2, .inl (va_cpy (h o1) (h o2) (nI sp).toNatClampNeg (nI dp).toNatClampNeg (nI n).toNatClampNeg)) := va_copied (fun z => .int z) _ _ (h o1) (h o2) (by rw [c1, c3]; exact h1)
  rw [e1, c1, c2, c3] at X'
  rw [e1, c1, c2, c3] at step
  have hl2 : aN a + o2 < H.size := (Array.getElem?_eq_some_iff.mp hc1).1
  have oq : ∀ q : Nat, q ≠ aN a + o2 → (H.setIfInBounds (aN a + o2) (vp_cell a.2.1.1 (n2, .inl (va_cpy (h o1) (h o2) sp dp n))))[q]? = H[q]? := fun q hq => by simp [Array.getElem?_setIfInBounds, Ne.symm hq]
  have hP1 := hP.1.set (e := .inl (a.2.1.1, n2, .inl (va_cpy (h o1) (h o2) sp dp n))) ws_D ha1 (show (H.setIfInBounds (aN a + o2) _)[aN a + o2]? = some _ by simp [Array.getElem?_setIfInBounds, hl2]) oq
  rw [ws_set (a := a) (S := S) (h := h) (S' := S) (h' := hs h o2 (va_cpy (h o1) (h o2) sp dp n)) (e' := .inl (a.2.1.1, n2, .inl (va_cpy (h o1) (h o2) sp dp n))) rfl ho2 (by show Sum.inl _ = Sum.inl _; rw [hs_same]) (fun j hj => ⟨hs_ne hj, rfl⟩)] at hP1
  obtain ⟨t, a1, b1⟩ := K _ _ ⟨hP1, by simp; exact hP.2⟩ ⟨by simp; exact hS.1, fun q g1 g2 => by
      rw [oq q (fun e => g2 (by rw [e]; exact ws_D.2 o2 _ ha1))]
      exact hS.2.1 q g1 g2, fun q hq => by
      rcases List.mem_append.mp hq with w | w
      · exact hS.2.2 q w
      · obtain ⟨z, -, hz⟩ := List.mem_map.mp w
        rw [← hz]
        exact ws_D.2 o2 _ ha1⟩ _ (by rw [← hT]; rfl) X'
  exact ⟨t, step t a1, b1⟩
end CALLS
end
section
theorem ci_X0_init : CI mX0_init 3 := ⟨ok_X0_init, is_X0_init, by decide, rfl, rfl⟩
theorem cv_X0_ofSite : CV mX0_ofSite 1 := ⟨ok_X0_ofSite, is_X0_ofSite, se_X0_ofSite, by decide⟩
theorem cv_X0_idleLines : CV mX0_idleLines 1 := ⟨ok_X0_idleLines, is_X0_idleLines, se_X0_idleLines, by decide⟩
theorem cv_X0_countOf : CV mX0_countOf 1 := ⟨ok_X0_countOf, is_X0_countOf, se_X0_countOf, by decide⟩
theorem cv_X0_keptIn : CV mX0_keptIn 1 := ⟨ok_X0_keptIn, is_X0_keptIn, se_X0_keptIn, by decide⟩
theorem cv_X0_find : CV mX0_find 0 := ⟨ok_X0_find, is_X0_find, se_X0_find, by decide⟩
theorem cv_X0_giveFates : CV mX0_giveFates 3 := ⟨ok_X0_giveFates, is_X0_giveFates, se_X0_giveFates, by decide⟩
theorem cs_X0_fateOf : CS mX0_fateOf 2 := ⟨ok_X0_fateOf, st_X0_fateOf, by decide⟩
theorem cv_X0_allKept : CV mX0_allKept 0 := ⟨ok_X0_allKept, is_X0_allKept, se_X0_allKept, by decide⟩
theorem cv_X0_idleAmong : CV mX0_idleAmong 2 := ⟨ok_X0_idleAmong, is_X0_idleAmong, se_X0_idleAmong, by decide⟩
theorem ci_X1_init : CI mX1_init 2 := ⟨ok_X1_init, is_X1_init, by decide, rfl, rfl⟩
theorem cv_X1_inName : CV mX1_inName 2 := ⟨ok_X1_inName, is_X1_inName, se_X1_inName, by decide⟩
theorem cv_X1_inField : CV mX1_inField 1 := ⟨ok_X1_inField, is_X1_inField, se_X1_inField, by decide⟩
theorem cv_X1_inOpenPlace : CV mX1_inOpenPlace 0 := ⟨ok_X1_inOpenPlace, is_X1_inOpenPlace, se_X1_inOpenPlace, by decide⟩
theorem cv_X1_reachedFrom : CV mX1_reachedFrom 1 := ⟨ok_X1_reachedFrom, is_X1_reachedFrom, se_X1_reachedFrom, by decide⟩
theorem cv_X1_find : CV mX1_find 0 := ⟨ok_X1_find, is_X1_find, se_X1_find, by decide⟩
theorem cv_X1_addByLine : CV mX1_addByLine 2 := ⟨ok_X1_addByLine, is_X1_addByLine, se_X1_addByLine, by decide⟩
theorem cv_X1_addToName : CV mX1_addToName 3 := ⟨ok_X1_addToName, is_X1_addToName, se_X1_addToName, by decide⟩
theorem cv_X1_addToOpenPlace : CV mX1_addToOpenPlace 1 := ⟨ok_X1_addToOpenPlace, is_X1_addToOpenPlace, se_X1_addToOpenPlace, by decide⟩
theorem cv_X1_addToFields : CV mX1_addToFields 2 := ⟨ok_X1_addToFields, is_X1_addToFields, se_X1_addToFields, by decide⟩
theorem cv_X1_inFields : CV mX1_inFields 1 := ⟨ok_X1_inFields, is_X1_inFields, se_X1_inFields, by decide⟩
theorem ci_X2_init : CI mX2_init 0 := ⟨ok_X2_init, is_X2_init, by decide, rfl, rfl⟩
theorem cv_X2_count : CV mX2_count 0 := ⟨ok_X2_count, is_X2_count, se_X2_count, by decide⟩
theorem cv_X2_has : CV mX2_has 1 := ⟨ok_X2_has, is_X2_has, se_X2_has, by decide⟩
theorem cv_X2_lines : CV mX2_lines 1 := ⟨ok_X2_lines, is_X2_lines, se_X2_lines, by decide⟩
theorem cv_X2_hasLine : CV mX2_hasLine 2 := ⟨ok_X2_hasLine, is_X2_hasLine, se_X2_hasLine, by decide⟩
theorem cv_X2_sort : CV mX2_sort 2 := ⟨ok_X2_sort, is_X2_sort, se_X2_sort, by decide⟩
theorem cv_X2_name : CV mX2_name 2 := ⟨ok_X2_name, is_X2_name, se_X2_name, by decide⟩
theorem cv_X2_hasOther : CV mX2_hasOther 2 := ⟨ok_X2_hasOther, is_X2_hasOther, se_X2_hasOther, by decide⟩
theorem cv_X2_other : CV mX2_other 2 := ⟨ok_X2_other, is_X2_other, se_X2_other, by decide⟩
theorem cv_X2_callee : CV mX2_callee 2 := ⟨ok_X2_callee, is_X2_callee, se_X2_callee, by decide⟩
theorem cv_X2_calledBy : CV mX2_calledBy 1 := ⟨ok_X2_calledBy, is_X2_calledBy, se_X2_calledBy, by decide⟩
theorem cv_X2_becomeNone : CV mX2_becomeNone 0 := ⟨ok_X2_becomeNone, is_X2_becomeNone, se_X2_becomeNone, by decide⟩
theorem cv_X2_addMethod : CV mX2_addMethod 0 := ⟨ok_X2_addMethod, is_X2_addMethod, se_X2_addMethod, by decide⟩
theorem cv_X2_addLine : CV mX2_addLine 4 := ⟨ok_X2_addLine, is_X2_addLine, se_X2_addLine, by decide⟩
theorem cv_X2_removeLine : CV mX2_removeLine 2 := ⟨ok_X2_removeLine, is_X2_removeLine, se_X2_removeLine, by decide⟩
theorem cv_X2_swapWithNext : CV mX2_swapWithNext 2 := ⟨ok_X2_swapWithNext, is_X2_swapWithNext, se_X2_swapWithNext, by decide⟩
theorem cv_X2_becomeLike : CV mX2_becomeLike 1 := ⟨ok_X2_becomeLike, is_X2_becomeLike, se_X2_becomeLike, by decide⟩
theorem cv_X2_code : CV mX2_code 2 := ⟨ok_X2_code, is_X2_code, se_X2_code, by decide⟩
theorem ci_X3_init : CI mX3_init 2 := ⟨ok_X3_init, is_X3_init, by decide, rfl, rfl⟩
theorem cv_X3_readAll : CV mX3_readAll 0 := ⟨ok_X3_readAll, is_X3_readAll, se_X3_readAll, by decide⟩
theorem cv_X3_firstMissingCall : CV mX3_firstMissingCall 0 := ⟨ok_X3_firstMissingCall, is_X3_firstMissingCall, se_X3_firstMissingCall, by decide⟩
theorem cv_X3_readMethod : CV mX3_readMethod 1 := ⟨ok_X3_readMethod, is_X3_readMethod, se_X3_readMethod, by decide⟩
theorem cv_X3_readLine : CV mX3_readLine 1 := ⟨ok_X3_readLine, is_X3_readLine, se_X3_readLine, by decide⟩
theorem cv_X3_readPut : CV mX3_readPut 0 := ⟨ok_X3_readPut, is_X3_readPut, se_X3_readPut, by decide⟩
theorem cv_X3_readValue : CV mX3_readValue 1 := ⟨ok_X3_readValue, is_X3_readValue, se_X3_readValue, by decide⟩
theorem cv_X3_noteCall : CV mX3_noteCall 0 := ⟨ok_X3_noteCall, is_X3_noteCall, se_X3_noteCall, by decide⟩
theorem cv_X3_take : CV mX3_take 1 := ⟨ok_X3_take, is_X3_take, se_X3_take, by decide⟩
theorem cv_X3_refuse : CV mX3_refuse 0 := ⟨ok_X3_refuse, is_X3_refuse, se_X3_refuse, by decide⟩
theorem cv_X3_takeName : CV mX3_takeName 0 := ⟨ok_X3_takeName, is_X3_takeName, se_X3_takeName, by decide⟩
theorem cs_X3_nameOf : CS mX3_nameOf 1 := ⟨ok_X3_nameOf, st_X3_nameOf, by decide⟩
theorem ci_X4_init : CI mX4_init 0 := ⟨ok_X4_init, is_X4_init, by decide, rfl, rfl⟩
theorem cv_X4_count : CV mX4_count 0 := ⟨ok_X4_count, is_X4_count, se_X4_count, by decide⟩
theorem cv_X4_methodOf : CV mX4_methodOf 1 := ⟨ok_X4_methodOf, is_X4_methodOf, se_X4_methodOf, by decide⟩
theorem cv_X4_lineOf : CV mX4_lineOf 1 := ⟨ok_X4_lineOf, is_X4_lineOf, se_X4_lineOf, by decide⟩
theorem cv_X4_inMethod : CV mX4_inMethod 1 := ⟨ok_X4_inMethod, is_X4_inMethod, se_X4_inMethod, by decide⟩
theorem cv_X4_ofLine : CV mX4_ofLine 2 := ⟨ok_X4_ofLine, is_X4_ofLine, se_X4_ofLine, by decide⟩
theorem cv_X4_number : CV mX4_number 1 := ⟨ok_X4_number, is_X4_number, se_X4_number, by decide⟩
theorem cv_X4_add : CV mX4_add 2 := ⟨ok_X4_add, is_X4_add, se_X4_add, by decide⟩
theorem ci_X5_init : CI mX5_init 0 := ⟨ok_X5_init, is_X5_init, by decide, rfl, rfl⟩
theorem cv_X5_count : CV mX5_count 0 := ⟨ok_X5_count, is_X5_count, se_X5_count, by decide⟩
theorem cv_X5_keep : CV mX5_keep 1 := ⟨ok_X5_keep, is_X5_keep, se_X5_keep, by decide⟩
theorem cv_X5_giveBack : CV mX5_giveBack 1 := ⟨ok_X5_giveBack, is_X5_giveBack, se_X5_giveBack, by decide⟩
theorem cv_X5_loseOldest : CV mX5_loseOldest 0 := ⟨ok_X5_loseOldest, is_X5_loseOldest, se_X5_loseOldest, by decide⟩
theorem ci_X6_init : CI mX6_init 0 := ⟨ok_X6_init, is_X6_init, by decide, rfl, rfl⟩
theorem cv_X6_length : CV mX6_length 0 := ⟨ok_X6_length, is_X6_length, se_X6_length, by decide⟩
theorem cv_X6_isFull : CV mX6_isFull 0 := ⟨ok_X6_isFull, is_X6_isFull, se_X6_isFull, by decide⟩
theorem cv_X6_append : CV mX6_append 1 := ⟨ok_X6_append, is_X6_append, se_X6_append, by decide⟩
theorem cv_X6_empty : CV mX6_empty 0 := ⟨ok_X6_empty, is_X6_empty, se_X6_empty, by decide⟩
theorem cv_X6_at : CV mX6_at 1 := ⟨ok_X6_at, is_X6_at, se_X6_at, by decide⟩
theorem ci_X7_init : CI mX7_init 0 := ⟨ok_X7_init, is_X7_init, by decide, rfl, rfl⟩
theorem cv_X7_ahead : CV mX7_ahead 0 := ⟨ok_X7_ahead, is_X7_ahead, se_X7_ahead, by decide⟩
theorem cv_X7_place : CV mX7_place 0 := ⟨ok_X7_place, is_X7_place, se_X7_place, by decide⟩
theorem cv_X7_step : CV mX7_step 0 := ⟨ok_X7_step, is_X7_step, se_X7_step, by decide⟩
theorem cv_X7_cut : CV mX7_cut 1 := ⟨ok_X7_cut, is_X7_cut, se_X7_cut, by decide⟩
theorem cv_X7_add : CV mX7_add 2 := ⟨ok_X7_add, is_X7_add, se_X7_add, by decide⟩
theorem cs_X7_lettersFrom : CS mX7_lettersFrom 2 := ⟨ok_X7_lettersFrom, st_X7_lettersFrom, by decide⟩
theorem cs_X7_wordKind : CS mX7_wordKind 3 := ⟨ok_X7_wordKind, st_X7_wordKind, by decide⟩
theorem cs_X7_spells : CS mX7_spells 4 := ⟨ok_X7_spells, st_X7_spells, by decide⟩
theorem ci_X8_init : CI mX8_init 3 := ⟨ok_X8_init, is_X8_init, by decide, rfl, rfl⟩
theorem cv_X8_failed : CV mX8_failed 0 := ⟨ok_X8_failed, is_X8_failed, se_X8_failed, by decide⟩
theorem cv_X8_made : CV mX8_made 0 := ⟨ok_X8_made, is_X8_made, se_X8_made, by decide⟩
theorem cv_X8_locks : CV mX8_locks 0 := ⟨ok_X8_locks, is_X8_locks, se_X8_locks, by decide⟩
theorem cv_X8_idleLocks : CV mX8_idleLocks 0 := ⟨ok_X8_idleLocks, is_X8_idleLocks, se_X8_idleLocks, by decide⟩
theorem cv_X8_calls : CV mX8_calls 0 := ⟨ok_X8_calls, is_X8_calls, se_X8_calls, by decide⟩
theorem cv_X8_leaks : CV mX8_leaks 0 := ⟨ok_X8_leaks, is_X8_leaks, se_X8_leaks, by decide⟩
theorem cv_X8_madeOf : CV mX8_madeOf 1 := ⟨ok_X8_madeOf, is_X8_madeOf, se_X8_madeOf, by decide⟩
theorem cv_X8_leaksOf : CV mX8_leaksOf 1 := ⟨ok_X8_leaksOf, is_X8_leaksOf, se_X8_leaksOf, by decide⟩
theorem cv_X8_locksOf : CV mX8_locksOf 1 := ⟨ok_X8_locksOf, is_X8_locksOf, se_X8_locksOf, by decide⟩
theorem cv_X8_siteInOpenPlace : CV mX8_siteInOpenPlace 0 := ⟨ok_X8_siteInOpenPlace, is_X8_siteInOpenPlace, se_X8_siteInOpenPlace, by decide⟩
theorem cv_X8_start : CV mX8_start 0 := ⟨ok_X8_start, is_X8_start, se_X8_start, by decide⟩
theorem cv_X8_callMethod : CV mX8_callMethod 2 := ⟨ok_X8_callMethod, is_X8_callMethod, se_X8_callMethod, by decide⟩
theorem cv_X8_doLine : CV mX8_doLine 3 := ⟨ok_X8_doLine, is_X8_doLine, se_X8_doLine, by decide⟩
theorem cv_X8_callFrom : CV mX8_callFrom 3 := ⟨ok_X8_callFrom, is_X8_callFrom, se_X8_callFrom, by decide⟩
theorem cv_X8_newThing : CV mX8_newThing 2 := ⟨ok_X8_newThing, is_X8_newThing, se_X8_newThing, by decide⟩
theorem cv_X8_makeMoreRoom : CV mX8_makeMoreRoom 0 := ⟨ok_X8_makeMoreRoom, is_X8_makeMoreRoom, se_X8_makeMoreRoom, by decide⟩
theorem cv_X8_putIntoField : CV mX8_putIntoField 2 := ⟨ok_X8_putIntoField, is_X8_putIntoField, se_X8_putIntoField, by decide⟩
theorem cv_X8_takeFromField : CV mX8_takeFromField 1 := ⟨ok_X8_takeFromField, is_X8_takeFromField, se_X8_takeFromField, by decide⟩
theorem cv_X8_lock : CV mX8_lock 2 := ⟨ok_X8_lock, is_X8_lock, se_X8_lock, by decide⟩
theorem cv_X8_findLeaks : CV mX8_findLeaks 4 := ⟨ok_X8_findLeaks, is_X8_findLeaks, se_X8_findLeaks, by decide⟩
theorem cv_X8_followFrom : CV mX8_followFrom 3 := ⟨ok_X8_followFrom, is_X8_followFrom, se_X8_followFrom, by decide⟩
theorem cv_X8_isThing : CV mX8_isThing 1 := ⟨ok_X8_isThing, is_X8_isThing, se_X8_isThing, by decide⟩
theorem cv_X8_inName : CV mX8_inName 2 := ⟨ok_X8_inName, is_X8_inName, se_X8_inName, by decide⟩
theorem cv_X8_setName : CV mX8_setName 3 := ⟨ok_X8_setName, is_X8_setName, se_X8_setName, by decide⟩
theorem ci_X9_init : CI mX9_init 0 := ⟨ok_X9_init, is_X9_init, by decide, rfl, rfl⟩
theorem cv_X9_type : CV mX9_type 1 := ⟨ok_X9_type, is_X9_type, se_X9_type, by decide⟩
theorem cv_X9_clear : CV mX9_clear 0 := ⟨ok_X9_clear, is_X9_clear, se_X9_clear, by decide⟩
theorem cv_X9_reads : CV mX9_reads 0 := ⟨ok_X9_reads, is_X9_reads, se_X9_reads, by decide⟩
theorem cv_X9_drops : CV mX9_drops 2 := ⟨ok_X9_drops, is_X9_drops, se_X9_drops, by decide⟩
theorem cv_X9_swaps : CV mX9_swaps 2 := ⟨ok_X9_swaps, is_X9_swaps, se_X9_swaps, by decide⟩
theorem cv_X9_of : CV mX9_of 2 := ⟨ok_X9_of, is_X9_of, se_X9_of, by decide⟩
theorem cv_X9_line : CV mX9_line 3 := ⟨ok_X9_line, is_X9_line, se_X9_line, by decide⟩
theorem cv_X9_site : CV mX9_site 2 := ⟨ok_X9_site, is_X9_site, se_X9_site, by decide⟩
theorem cv_X9_may : CV mX9_may 2 := ⟨ok_X9_may, is_X9_may, se_X9_may, by decide⟩
theorem cv_X9_open : CV mX9_open 0 := ⟨ok_X9_open, is_X9_open, se_X9_open, by decide⟩
theorem cv_X9_reached : CV mX9_reached 2 := ⟨ok_X9_reached, is_X9_reached, se_X9_reached, by decide⟩
theorem cv_X9_fates : CV mX9_fates 1 := ⟨ok_X9_fates, is_X9_fates, se_X9_fates, by decide⟩
theorem cv_X9_run : CV mX9_run 1 := ⟨ok_X9_run, is_X9_run, se_X9_run, by decide⟩
theorem cv_X9_ran : CV mX9_ran 2 := ⟨ok_X9_ran, is_X9_ran, se_X9_ran, by decide⟩
theorem cv_X9_held : CV mX9_held 0 := ⟨ok_X9_held, is_X9_held, se_X9_held, by decide⟩
theorem cv_X9_back : CV mX9_back 0 := ⟨ok_X9_back, is_X9_back, se_X9_back, by decide⟩
theorem cv_X9_told : CV mX9_told 1 := ⟨ok_X9_told, is_X9_told, se_X9_told, by decide⟩
theorem cv_X9_digest : CV mX9_digest 0 := ⟨ok_X9_digest, is_X9_digest, se_X9_digest, by decide⟩
theorem cv_X9_digestWithMethod : CV mX9_digestWithMethod 2 := ⟨ok_X9_digestWithMethod, is_X9_digestWithMethod, se_X9_digestWithMethod, by decide⟩
theorem cv_X9_digestWithSite : CV mX9_digestWithSite 2 := ⟨ok_X9_digestWithSite, is_X9_digestWithSite, se_X9_digestWithSite, by decide⟩
theorem cv_X9_ofMethod : CV mX9_ofMethod 2 := ⟨ok_X9_ofMethod, is_X9_ofMethod, se_X9_ofMethod, by decide⟩
theorem cv_X9_ofLine : CV mX9_ofLine 3 := ⟨ok_X9_ofLine, is_X9_ofLine, se_X9_ofLine, by decide⟩
theorem cv_X9_ofSite : CV mX9_ofSite 2 := ⟨ok_X9_ofSite, is_X9_ofSite, se_X9_ofSite, by decide⟩
theorem cv_X9_ofRun : CV mX9_ofRun 1 := ⟨ok_X9_ofRun, is_X9_ofRun, se_X9_ofRun, by decide⟩
theorem cv_X9_ofSiteRun : CV mX9_ofSiteRun 2 := ⟨ok_X9_ofSiteRun, is_X9_ofSiteRun, se_X9_ofSiteRun, by decide⟩
theorem cv_X9_ofAll : CV mX9_ofAll 1 := ⟨ok_X9_ofAll, is_X9_ofAll, se_X9_ofAll, by decide⟩
theorem cv_X9_refusedAsBad : CV mX9_refusedAsBad 0 := ⟨ok_X9_refusedAsBad, is_X9_refusedAsBad, se_X9_refusedAsBad, by decide⟩
theorem cv_X9_refusedAsNo : CV mX9_refusedAsNo 0 := ⟨ok_X9_refusedAsNo, is_X9_refusedAsNo, se_X9_refusedAsNo, by decide⟩
theorem cv_X9_refusedAsFull : CV mX9_refusedAsFull 0 := ⟨ok_X9_refusedAsFull, is_X9_refusedAsFull, se_X9_refusedAsFull, by decide⟩
theorem cs_X9_isOutside : CS mX9_isOutside 2 := ⟨ok_X9_isOutside, st_X9_isOutside, by decide⟩
theorem cv_X9_leaveState : CV mX9_leaveState 0 := ⟨ok_X9_leaveState, is_X9_leaveState, se_X9_leaveState, by decide⟩
theorem cv_X9_forgetFindings : CV mX9_forgetFindings 0 := ⟨ok_X9_forgetFindings, is_X9_forgetFindings, se_X9_forgetFindings, by decide⟩
theorem cv_X9_findMays : CV mX9_findMays 0 := ⟨ok_X9_findMays, is_X9_findMays, se_X9_findMays, by decide⟩
theorem cv_X9_findRun : CV mX9_findRun 0 := ⟨ok_X9_findRun, is_X9_findRun, se_X9_findRun, by decide⟩
theorem ci_X10_init : CI mX10_init 0 := ⟨ok_X10_init, is_X10_init, by decide, rfl, rfl⟩
theorem cs_X10_in : CS mX10_in 3 := ⟨ok_X10_in, st_X10_in, by decide⟩
theorem cs_X10_bring : CS mX10_bring 4 := ⟨ok_X10_bring, st_X10_bring, by decide⟩
theorem cv_X10_refuse : CV mX10_refuse 1 := ⟨ok_X10_refuse, is_X10_refuse, se_X10_refuse, by decide⟩
theorem cv_X10_note : CV mX10_note 0 := ⟨ok_X10_note, is_X10_note, se_X10_note, by decide⟩
theorem cv_X10_isWordByte : CV mX10_isWordByte 0 := ⟨ok_X10_isWordByte, is_X10_isWordByte, se_X10_isWordByte, by decide⟩
theorem cv_X10_isWord : CV mX10_isWord 4 := ⟨ok_X10_isWord, is_X10_isWord, se_X10_isWord, by decide⟩
theorem cv_X10_next : CV mX10_next 0 := ⟨ok_X10_next, is_X10_next, se_X10_next, by decide⟩
theorem cv_X10_isNext : CV mX10_isNext 1 := ⟨ok_X10_isNext, is_X10_isNext, se_X10_isNext, by decide⟩
theorem cs_X10_nameOf : CS mX10_nameOf 1 := ⟨ok_X10_nameOf, st_X10_nameOf, by decide⟩
theorem cv_X10_nextName : CV mX10_nextName 0 := ⟨ok_X10_nextName, is_X10_nextName, se_X10_nextName, by decide⟩
theorem cv_X10_readRight : CV mX10_readRight 1 := ⟨ok_X10_readRight, is_X10_readRight, se_X10_readRight, by decide⟩
theorem cv_X10_readLine : CV mX10_readLine 1 := ⟨ok_X10_readLine, is_X10_readLine, se_X10_readLine, by decide⟩
theorem cv_X10_readMethod : CV mX10_readMethod 0 := ⟨ok_X10_readMethod, is_X10_readMethod, se_X10_readMethod, by decide⟩
theorem cv_X10_readText : CV mX10_readText 0 := ⟨ok_X10_readText, is_X10_readText, se_X10_readText, by decide⟩
theorem cv_X10_type : CV mX10_type 1 := ⟨ok_X10_type, is_X10_type, se_X10_type, by decide⟩
theorem cv_X10_clear : CV mX10_clear 0 := ⟨ok_X10_clear, is_X10_clear, se_X10_clear, by decide⟩
theorem cv_X10_reads : CV mX10_reads 0 := ⟨ok_X10_reads, is_X10_reads, se_X10_reads, by decide⟩
theorem cv_X10_linesOf : CV mX10_linesOf 1 := ⟨ok_X10_linesOf, is_X10_linesOf, se_X10_linesOf, by decide⟩
theorem cv_X10_lineAt : CV mX10_lineAt 3 := ⟨ok_X10_lineAt, is_X10_lineAt, se_X10_lineAt, by decide⟩
theorem cv_X10_isMethod : CV mX10_isMethod 1 := ⟨ok_X10_isMethod, is_X10_isMethod, se_X10_isMethod, by decide⟩
theorem cv_X10_isLine : CV mX10_isLine 2 := ⟨ok_X10_isLine, is_X10_isLine, se_X10_isLine, by decide⟩
theorem cv_X10_drops : CV mX10_drops 2 := ⟨ok_X10_drops, is_X10_drops, se_X10_drops, by decide⟩
theorem cv_X10_swaps : CV mX10_swaps 2 := ⟨ok_X10_swaps, is_X10_swaps, se_X10_swaps, by decide⟩
theorem cv_X10_findSites : CV mX10_findSites 0 := ⟨ok_X10_findSites, is_X10_findSites, se_X10_findSites, by decide⟩
theorem cv_X10_add : CV mX10_add 2 := ⟨ok_X10_add, is_X10_add, se_X10_add, by decide⟩
theorem cs_X10_has : CS mX10_has 2 := ⟨ok_X10_has, st_X10_has, by decide⟩
theorem cv_X10_fields : CV mX10_fields 1 := ⟨ok_X10_fields, is_X10_fields, se_X10_fields, by decide⟩
theorem cv_X10_goThrough : CV mX10_goThrough 2 := ⟨ok_X10_goThrough, is_X10_goThrough, se_X10_goThrough, by decide⟩
theorem cv_X10_findMays : CV mX10_findMays 0 := ⟨ok_X10_findMays, is_X10_findMays, se_X10_findMays, by decide⟩
theorem cv_X10_reachedFrom : CV mX10_reachedFrom 1 := ⟨ok_X10_reachedFrom, is_X10_reachedFrom, se_X10_reachedFrom, by decide⟩
theorem cv_X10_fateOf : CV mX10_fateOf 1 := ⟨ok_X10_fateOf, is_X10_fateOf, se_X10_fateOf, by decide⟩
theorem cv_X10_fated : CV mX10_fated 1 := ⟨ok_X10_fated, is_X10_fated, se_X10_fated, by decide⟩
theorem cv_X10_idleOf : CV mX10_idleOf 1 := ⟨ok_X10_idleOf, is_X10_idleOf, se_X10_idleOf, by decide⟩
theorem cs_X10_ones : CS mX10_ones 1 := ⟨ok_X10_ones, st_X10_ones, by decide⟩
theorem cv_X10_ofMethod : CV mX10_ofMethod 2 := ⟨ok_X10_ofMethod, is_X10_ofMethod, se_X10_ofMethod, by decide⟩
theorem cv_X10_of : CV mX10_of 2 := ⟨ok_X10_of, is_X10_of, se_X10_of, by decide⟩
theorem cv_X10_ofLine : CV mX10_ofLine 3 := ⟨ok_X10_ofLine, is_X10_ofLine, se_X10_ofLine, by decide⟩
theorem cv_X10_line : CV mX10_line 3 := ⟨ok_X10_line, is_X10_line, se_X10_line, by decide⟩
theorem cv_X10_ofSite : CV mX10_ofSite 2 := ⟨ok_X10_ofSite, is_X10_ofSite, se_X10_ofSite, by decide⟩
theorem cv_X10_site : CV mX10_site 2 := ⟨ok_X10_site, is_X10_site, se_X10_site, by decide⟩
theorem cv_X10_may : CV mX10_may 2 := ⟨ok_X10_may, is_X10_may, se_X10_may, by decide⟩
theorem cv_X10_open : CV mX10_open 0 := ⟨ok_X10_open, is_X10_open, se_X10_open, by decide⟩
theorem cv_X10_reached : CV mX10_reached 2 := ⟨ok_X10_reached, is_X10_reached, se_X10_reached, by decide⟩
theorem cv_X10_fates : CV mX10_fates 1 := ⟨ok_X10_fates, is_X10_fates, se_X10_fates, by decide⟩
theorem cv_X10_call : CV mX10_call 2 := ⟨ok_X10_call, is_X10_call, se_X10_call, by decide⟩
theorem cv_X10_follow : CV mX10_follow 2 := ⟨ok_X10_follow, is_X10_follow, se_X10_follow, by decide⟩
theorem cv_X10_end : CV mX10_end 0 := ⟨ok_X10_end, is_X10_end, se_X10_end, by decide⟩
theorem cv_X10_make : CV mX10_make 1 := ⟨ok_X10_make, is_X10_make, se_X10_make, by decide⟩
theorem cv_X10_lock : CV mX10_lock 3 := ⟨ok_X10_lock, is_X10_lock, se_X10_lock, by decide⟩
theorem cv_X10_step : CV mX10_step 0 := ⟨ok_X10_step, is_X10_step, se_X10_step, by decide⟩
theorem cv_X10_goRun : CV mX10_goRun 0 := ⟨ok_X10_goRun, is_X10_goRun, se_X10_goRun, by decide⟩
theorem cv_X10_ofRun : CV mX10_ofRun 1 := ⟨ok_X10_ofRun, is_X10_ofRun, se_X10_ofRun, by decide⟩
theorem cv_X10_run : CV mX10_run 1 := ⟨ok_X10_run, is_X10_run, se_X10_run, by decide⟩
theorem cv_X10_ranOf : CV mX10_ranOf 2 := ⟨ok_X10_ranOf, is_X10_ranOf, se_X10_ranOf, by decide⟩
theorem cv_X10_ran : CV mX10_ran 2 := ⟨ok_X10_ran, is_X10_ran, se_X10_ran, by decide⟩
theorem cv_X10_heldNow : CV mX10_heldNow 0 := ⟨ok_X10_heldNow, is_X10_heldNow, se_X10_heldNow, by decide⟩
theorem cv_X10_held : CV mX10_held 0 := ⟨ok_X10_held, is_X10_held, se_X10_held, by decide⟩
theorem cv_X10_back : CV mX10_back 0 := ⟨ok_X10_back, is_X10_back, se_X10_back, by decide⟩
theorem cv_X10_toldOf : CV mX10_toldOf 1 := ⟨ok_X10_toldOf, is_X10_toldOf, se_X10_toldOf, by decide⟩
theorem cv_X10_told : CV mX10_told 1 := ⟨ok_X10_told, is_X10_told, se_X10_told, by decide⟩
theorem cv_X10_digest : CV mX10_digest 0 := ⟨ok_X10_digest, is_X10_digest, se_X10_digest, by decide⟩
theorem cv_J0_length_8abf5 : CV mJ0_length_8abf5 0 := ⟨ok_J0_length_8abf5, is_J0_length_8abf5, se_J0_length_8abf5, by decide⟩
theorem cv_J0_charAt_5068e : CV mJ0_charAt_5068e 1 := ⟨ok_J0_charAt_5068e, is_J0_charAt_5068e, se_J0_charAt_5068e, by decide⟩
theorem cv_J0_coder_7d493 : CV mJ0_coder_7d493 0 := ⟨ok_J0_coder_7d493, is_J0_coder_7d493, se_J0_coder_7d493, by decide⟩
theorem cv_J0_isLatin1_aae02 : CV mJ0_isLatin1_aae02 0 := ⟨ok_J0_isLatin1_aae02, is_J0_isLatin1_aae02, se_J0_isLatin1_aae02, by decide⟩
theorem cs_J0_checkIndex_df160 : CS mJ0_checkIndex_df160 2 := ⟨ok_J0_checkIndex_df160, st_J0_checkIndex_df160, by decide⟩
theorem cs_J1_charAt_3b067 : CS mJ1_charAt_3b067 2 := ⟨ok_J1_charAt_3b067, st_J1_charAt_3b067, by decide⟩
theorem cs_J7_fill_53178 : CS mJ7_fill_53178 2 := ⟨ok_J7_fill_53178, st_J7_fill_53178, by decide⟩
theorem cs_J7_copyOf_59c91 : CS mJ7_copyOf_59c91 2 := ⟨ok_J7_copyOf_59c91, st_J7_copyOf_59c91, by decide⟩
theorem cs_J3_checkIndex_8e157 : CS mJ3_checkIndex_8e157 3 := ⟨ok_J3_checkIndex_8e157, st_J3_checkIndex_8e157, by decide⟩
/-- the cells that every run makes first, in their order: (kind, size) -/
def shp : List (Nat × Nat) := [(12, 14), (9, 2), (1, 200), (5, 3), (0, 4), (0, 32), (5, 3), (0, 4), (0, 32), (6, 9), (10, 5), (0, 200), (0, 200), (0, 4), (8, 2), (2, 5), (5, 3), (0, 4), (0, 32), (5, 3), (0, 4), (0, 32), (5, 3), (0, 4), (0, 32), (5, 3), (0, 4), (0, 32), (5, 3), (0, 4), (0, 32), (7, 4), (0, 32), (0, 32), (0, 4), (4, 6), (0, 16), (0, 32), (3, 5), (0, 32), (0, 4), (11, 18), (0, 16), (0, 32), (0, 32), (0, 32), (0, 32), (0, 32), (0, 32), (0, 32), (13, 45), (0, 133), (0, 133), (0, 665), (0, 3), (0, 200), (0, 32), (0, 32), (0, 32), (0, 32), (0, 32), (0, 49), (0, 4100), (0, 4100), (0, 4100), (0, 4100), (0, 16), (0, 4), (0, 4), (0, 4), (0, 4), (0, 4), (0, 4), (0, 32), (0, 32), (0, 32)]
def rfT : List (List (Option Nat)) := [[some 1, some 3, some 6, some 9, some 14, some 31, some 35, some 38, some 41, none, none, none, none, none], [some 2, none], [], [none, some 4, some 5], [], [], [none, some 7, some 8], [], [], [some 1, some 6, some 10, none, some 13, none, none, none, none], [some 11, some 12, none, none, none], [], [], [], [some 15, none], [], [none, some 17, some 18], [], [], [none, some 20, some 21], [], [], [none, some 23, some 24], [], [], [none, some 26, some 27], [], [], [none, some 29, some 30], [], [], [none, some 32, some 33, some 34], [], [], [], [some 3, some 31, some 36, some 37, none, none], [], [], [some 3, some 31, some 35, some 39, some 40], [], [], [some 3, some 31, some 38, some 42, none, none, none, none, none, none, none, none, none, none, none, some 47, some 48, some 49], [], [], [], [], [], [], [], [], [some 51, some 52, some 53, none, some 54, some 55, none, none, none, none, some 56, some 57, none, none, none, none, none, some 58, some 59, some 60, none, some 61, none, some 62, some 63, some 64, some 65, none, none, some 66, some 67, some 68, some 69, some 70, some 71, none, none, none, none, none, none, some 72, some 73, some 74, some 75], [], [], [], [], [], [], [], [], [], [], [], [], [], [], [], [], [], [], [], [], [], [], [], [], []]
/-- the cells stand as they were made, and their references (but those that may change) -/
def IsSt (S : St) : Prop := (∀ (o : Nat) (kn : Nat × Nat), shp[o]? = some kn → S.1[o]? = some kn) ∧ ∀ o k q : Nat, (rfT.getD o []).getD k none = some q → S.2 o k = some q
end
section
/-! ===== numbers, answers, programs ===== -/
theorem nI_z_eq {n : Nat} (h : n < 2 ^ 31) : nI n = 0 ↔ n = 0 := by rw [← nI_0, nI_eq h (by decide)]
theorem nI_z_lt {n : Nat} (h : n < 2 ^ 31) : nI n < 0 ↔ False := ⟨fun q => nI_pos h q, fun q => q.elim⟩
theorem nI_z_ge {n : Nat} (h : n < 2 ^ 31) : 0 ≤ nI n ↔ True := ⟨fun _ => trivial, fun _ => nI_pos' h⟩
theorem nI_z_gt {n : Nat} (h : n < 2 ^ 31) : 0 < nI n ↔ 0 < n := by rw [← nI_0, nI_ltI (by decide) h]
theorem nI_z_le {n : Nat} (h : n < 2 ^ 31) : nI n ≤ 0 ↔ n = 0 := by rw [← nI_0, nI_leI h (by decide)]; omega
/-- the answer is x, and nothing has changed -/
abbrev Rt (x : Int32) (S : St) (h : Hp) : Option Value → St → Hp → Prop := fun v S' h' => v = some (.int x) ∧ S = S' ∧ h = h'
/-- no answer, the heap is now h2 -/
abbrev Rv (S : St) (h2 : Hp) : Option Value → St → Hp → Prop := fun v S' h' => v = none ∧ S = S' ∧ h2 = h'
/-- a number that is no place of n -/
def outN (x : Int32) (n : Nat) : Prop := x < 0 ∨ nI n ≤ x
theorem in_or (x : Int32) {n : Nat} (hn : n < 2 ^ 31) : outN x n ∨ ∃ j, j < n ∧ x = nI j := by
  rcases pk_ix x hn with h | h | h
  · exact Or.inl (Or.inl h)
  · exact Or.inl (Or.inr h)
  · exact Or.inr h
abbrev Ln : Type := Nat × Nat × Nat × Nat
abbrev Prog : Type := List (List Ln)
def enc (l : Ln) : Nat := l.1 + 8 * l.2.1 + 32 * l.2.2.1 + 128 * l.2.2.2
def lnN (P : Prog) (m : Nat) : Nat := (P.getD m []).length
def gt (P : Prog) (m i : Nat) : Ln := (P.getD m []).getD i (0, 0, 0, 0)
def okL (l : Ln) : Prop := l.1 < 8 ∧ l.2.1 < 4 ∧ l.2.2.1 < 4 ∧ l.2.2.2 < 4
/-- a program's lines are as they may be -/
def VB (P : Prog) : Prop := P.length ≤ 4 ∧ (∀ m, lnN P m ≤ 8) ∧ ∀ m i, i < lnN P m → okL (gt P m i)
def VC (P : Prog) : Prop := ∀ m i, i < lnN P m → (gt P m i).1 = 7 → m < (gt P m i).2.2.2 ∧ (gt P m i).2.2.2 < P.length
def VP (P : Prog) : Prop := VB P ∧ VC P
/-- an object of the class Methods: its cells -/
def MO (S : St) (o : Nat) : Prop := S.1[o]? = some (5, 3) ∧ S.1[o + 1]? = some (0, 4) ∧ S.1[o + 2]? = some (0, 32) ∧ S.2 o 1 = some (o + 1) ∧ S.2 o 2 = some (o + 2)
/-- .. and what it holds -/
def MP (h : Hp) (o : Nat) (P : Prog) : Prop := h o 0 = nI P.length ∧ (∀ m, m < P.length → h (o + 1) m = nI (lnN P m)) ∧ ∀ m i, m < P.length → i < lnN P m → h (o + 2) (m * 8 + i) = nI (enc (gt P m i))
theorem lnN_lt {P : Prog} {m i : Nat} (h : i < lnN P m) : m < P.length := by
  unfold lnN at h
  rcases Nat.lt_or_ge m P.length with q | q
  · exact q
  · simp [List.getD_eq_getElem?_getD, List.getElem?_eq_none q] at h
theorem enc_lt {l : Ln} (h : okL l) : enc l < 512 := by
  obtain ⟨h1, h2, h3, h4⟩ := h
  unfold enc
  omega
theorem enc_sort {l : Ln} (h : okL l) : nI (enc l) &&& nI 7 = nI l.1 := by
  have h0 := enc_lt h
  obtain ⟨h1, h2, h3, h4⟩ := h
  rw [pk_andN (by omega) 3 (by decide)]
  congr 1
  unfold enc
  omega
theorem enc_name {l : Ln} (h : okL l) : nI (enc l) >>> (nI 3 &&& 31) &&& nI 3 = nI l.2.1 := by
  have h0 := enc_lt h
  obtain ⟨h1, h2, h3, h4⟩ := h
  rw [pk_shrN (by omega) _ 3 (by decide), pk_andN (by omega) 2 (by decide)]
  congr 1
  unfold enc
  omega
theorem enc_other {l : Ln} (h : okL l) : nI (enc l) >>> (nI 5 &&& 31) &&& nI 3 = nI l.2.2.1 := by
  have h0 := enc_lt h
  obtain ⟨h1, h2, h3, h4⟩ := h
  rw [pk_shrN (by omega) _ 5 (by decide), pk_andN (by omega) 2 (by decide)]
  congr 1
  unfold enc
  omega
theorem enc_callee {l : Ln} (h : okL l) : nI (enc l) >>> (nI 7 &&& 31) &&& nI 3 = nI l.2.2.2 := by
  have h0 := enc_lt h
  obtain ⟨h1, h2, h3, h4⟩ := h
  rw [pk_shrN (by omega) _ 7 (by decide), pk_andN (by omega) 2 (by decide)]
  congr 1
  unfold enc
  omega
theorem nI_or (a b : Nat) : nI a ||| nI b = nI (a ||| b) := by
  apply Int32.toBitVec_inj.mp
  show BitVec.ofNat 32 a ||| BitVec.ofNat 32 b = BitVec.ofNat 32 (a ||| b)
  apply BitVec.eq_of_toNat_eq
  simp [BitVec.toNat_or, Nat.or_mod_two_pow]
theorem nI_orS {a b k : Nat} (h : a < 2 ^ k) : nI a ||| nI (b * 2 ^ k) = nI (a + b * 2 ^ k) := by
  rw [nI_or, Nat.or_comm, Nat.mul_comm b, ← Nat.two_pow_add_eq_or_of_lt h, Nat.add_comm]
/-- the code of a line, as addLine makes it -/
theorem enc_make {l : Ln} (h : okL l) : nI l.1 ||| (nI l.2.1 <<< (nI 3 &&& 31)) ||| (nI l.2.2.1 <<< (nI 5 &&& 31)) ||| (nI l.2.2.2 <<< (nI 7 &&& 31)) = nI (enc l) := by
  obtain ⟨h1, h2, h3, h4⟩ := h
  rw [pk_shlN _ 3 (by decide) (by omega), pk_shlN _ 5 (by decide) (by omega), pk_shlN _ 7 (by decide) (by omega), nI_orS (by omega), nI_orS (by omega), nI_orS (by omega)]
  congr 1
  unfold enc
  omega
/-- all cells but those of L are as they were -/
def Fr (L : List Nat) (h h' : Hp) : Prop := ∀ o, o ∉ L → h' o = h o
theorem Fr.rf {L : List Nat} {h : Hp} : Fr L h h := fun _ _ => rfl
theorem Fr.hs {L : List Nat} {h h' : Hp} {o : Nat} {f : Nat → Int32} (k : Fr L h h') (ho : o ∈ L) : Fr L h (hs h' o f) := fun j hj => by
  rw [hs_ne (fun q => hj (by rw [q]; exact ho))]
  exact k j hj
theorem Fr.trans {L : List Nat} {h h1 h2 : Hp} (k1 : Fr L h h1) (k2 : Fr L h1 h2) : Fr L h h2 := fun j hj => (k2 j hj).trans (k1 j hj)
theorem Fr.mono {L L' : List Nat} {h h' : Hp} (k : Fr L h h') (hL : ∀ o ∈ L, o ∈ L') : Fr L' h h' := fun j hj => k j (fun q => hj (hL j q))
theorem MP.fr {L : List Nat} {h h' : Hp} {o : Nat} {P : Prog} (hM : MP h o P) (k : Fr L h h') (h0 : o ∉ L) (h1 : o + 1 ∉ L) (h2 : o + 2 ∉ L) : MP h' o P := by
  unfold MP
  rw [k o h0, k (o + 1) h1, k (o + 2) h2]
  exact hM
theorem gtD (L : List Ln) (i : Nat) : L.getD i (0, 0, 0, 0) = (L[i]?).getD (0, 0, 0, 0) := List.getD_eq_getElem?_getD
theorem pD (P : Prog) (m : Nat) : P.getD m [] = (P[m]?).getD [] := List.getD_eq_getElem?_getD
theorem set_D {P : Prog} {m k : Nat} {L : List Ln} (hm : m < P.length) : (P.set m L).getD k [] = if k = m then L else P.getD k [] := by
  rw [pD, pD, List.getElem?_set]
  by_cases q : m = k
  · subst q; simp [hm]
  · rw [if_neg q, if_neg (fun z => q z.symm)]
theorem lnN_set {P : Prog} {m k : Nat} {L : List Ln} (hm : m < P.length) : lnN (P.set m L) k = if k = m then L.length else lnN P k := by
  unfold lnN
  rw [set_D hm]
  split <;> rfl
theorem gt_set {P : Prog} {m k i : Nat} {L : List Ln} (hm : m < P.length) : gt (P.set m L) k i = if k = m then L.getD i (0, 0, 0, 0) else gt P k i := by
  unfold gt
  rw [set_D hm]
  split <;> rfl
theorem lnN_new {P : Prog} (k : Nat) : lnN (P ++ [[]]) k = lnN P k := by
  unfold lnN
  rw [pD, pD, List.getElem?_append]
  split
  · rfl
  · rename_i q
    rw [List.getElem?_eq_none (l := P) (by omega)]
    cases hk : k - P.length with
    | zero => simp
    | succ n => simp
theorem gt_new {P : Prog} (k i : Nat) : gt (P ++ [[]]) k i = gt P k i := by
  unfold gt
  rw [pD, pD, List.getElem?_append]
  split
  · rfl
  · rename_i q
    rw [List.getElem?_eq_none (l := P) (by omega)]
    cases hk : k - P.length with
    | zero => simp
    | succ n => simp
/-- a line more, in the last method -/
def addL (P : Prog) (l : Ln) : Prog := P.set (P.length - 1) (P.getD (P.length - 1) [] ++ [l])
def dropL (P : Prog) (m i : Nat) : Prog := P.set m ((P.getD m []).eraseIdx i)
def swapL (P : Prog) (m i : Nat) : Prog := P.set m (((P.getD m []).set i (gt P m (i + 1))).set (i + 1) (gt P m i))
theorem lnN_add {P : Prog} {l : Ln} {k : Nat} (h : 0 < P.length) : lnN (addL P l) k = if k = P.length - 1 then lnN P k + 1 else lnN P k := by
  unfold addL
  rw [lnN_set (by omega)]
  split
  · rename_i q; subst q; simp [lnN]
  · rfl
theorem gt_add {P : Prog} {l : Ln} {k i : Nat} (h : 0 < P.length) : gt (addL P l) k i = if k = P.length - 1 ∧ i = lnN P k then l else gt P k i := by
  unfold addL
  rw [gt_set (by omega)]
  by_cases q : k = P.length - 1
  · subst q
    rw [if_pos rfl, gtD, List.getElem?_append]
    by_cases q2 : i < (P.getD (P.length - 1) []).length
    · rw [if_pos q2, if_neg (by unfold lnN; omega)]
      unfold gt; rw [gtD]
    · rw [if_neg q2]
      by_cases q3 : i = lnN P (P.length - 1)
      · rw [if_pos ⟨rfl, q3⟩]
        unfold lnN at q3
        simp [q3]
      · rw [if_neg (by omega)]
        unfold lnN at q3
        have e : i - (P.getD (P.length - 1) []).length = (i - (P.getD (P.length - 1) []).length - 1) + 1 := by omega
        unfold gt
        rw [e, gtD, List.getElem?_eq_none (l := P.getD (P.length - 1) []) (by omega)]
        simp
  · rw [if_neg q, if_neg (fun z => q z.1)]
theorem len_add {P : Prog} {l : Ln} : (addL P l).length = P.length := by simp [addL]
theorem len_drop {P : Prog} {m i : Nat} : (dropL P m i).length = P.length := by simp [dropL]
theorem len_swap {P : Prog} {m i : Nat} : (swapL P m i).length = P.length := by simp [swapL]
theorem lnN_drop {P : Prog} {m i k : Nat} (hi : i < lnN P m) : lnN (dropL P m i) k = if k = m then lnN P k - 1 else lnN P k := by
  unfold dropL
  rw [lnN_set (lnN_lt hi)]
  split
  · rename_i q; subst q
    unfold lnN at hi ⊢
    rw [List.length_eraseIdx_of_lt hi]
  · rfl
theorem gt_drop {P : Prog} {m i k j : Nat} (hi : i < lnN P m) : gt (dropL P m i) k j = if k = m ∧ i ≤ j then gt P k (j + 1) else gt P k j := by
  unfold dropL
  rw [gt_set (lnN_lt hi)]
  by_cases q : k = m
  · subst q
    rw [if_pos rfl, gtD, List.getElem?_eraseIdx]
    by_cases q2 : j < i
    · rw [if_pos q2, if_neg (by omega)]; unfold gt; rw [gtD]
    · rw [if_neg q2, if_pos (by omega)]; unfold gt; rw [gtD]
  · rw [if_neg q, if_neg (fun z => q z.1)]
theorem lnN_swap {P : Prog} {m i k : Nat} (hi : i + 1 < lnN P m) : lnN (swapL P m i) k = lnN P k := by
  unfold swapL
  rw [lnN_set (lnN_lt hi)]
  split
  · rename_i q; subst q
    simp [lnN]
  · rfl
theorem gt_swap {P : Prog} {m i k j : Nat} (hi : i + 1 < lnN P m) : gt (swapL P m i) k j = if k = m ∧ j = i then gt P m (i + 1) else if k = m ∧ j = i + 1 then gt P m i else gt P k j := by
  unfold swapL
  rw [gt_set (lnN_lt hi)]
  have hl : i + 1 < (P.getD m []).length := hi
  by_cases q : k = m
  · subst q
    rw [if_pos rfl, gtD, List.getElem?_set, List.getElem?_set]
    by_cases q1 : j = i
    · subst q1
      rw [if_neg (by omega), if_pos rfl, if_pos (by omega)]
      simp
    · by_cases q2 : j = i + 1
      · subst q2
        rw [if_pos rfl, if_pos (by simp; exact hl)]
        simp
      · rw [if_neg (by omega), if_neg (by omega), if_neg (by omega), if_neg (by omega)]
        unfold gt; rw [gtD]
  · rw [if_neg q, if_neg (fun z => q z.1), if_neg (fun z => q z.1)]
end
section
set_option maxHeartbeats 4000000 in
set_option maxRecDepth 100000 in
theorem c_isOut_in {a : Am} {S : St} {h : Hp} {j n : Nat} (hj : j < n) (hn : n < 2 ^ 31) : CT a 0 mX9_isOutside [.int (nI j), .int (nI n)] S h (Rt (nI 0) S h) := by
  refine met_of (by decide +kernel) (Nat.le_of_ble_eq_true rfl) ?_
  show T a 0 mX9_isOutside 0 [(0, .int (nI j)), (1, .int (nI n))] [] S h _
  refine tr_iload_n (pc := 0) 0 dX9_isOutside_0 rfl rfl ?_
  refine tr_if_lt (pc := 1) (tgt := 9) dX9_isOutside_1 (by decide) (nI_z_lt (by omega)) (fun hcc => absurd hcc (by decide)) (fun _ => ?_)
  refine tr_iload_n (pc := 4) 0 dX9_isOutside_4 rfl rfl ?_
  refine tr_iload_n (pc := 5) 1 dX9_isOutside_5 rfl rfl ?_
  refine tr_icmp_lt (pc := 6) (tgt := 13) dX9_isOutside_6 (by decide) (nI_ltI (by omega) (by omega)) (fun _ => ?_) (fun hcc => absurd (by omega) hcc)
  refine tr_iconst (pc := 13) (v := nI 0) dX9_isOutside_13 (by decide) ?_
  exact tr_iret (pc := 14) dX9_isOutside_14 rfl (by decide) (⟨rfl, rfl, rfl⟩)

set_option maxHeartbeats 4000000 in
set_option maxRecDepth 100000 in
theorem c_isOut_out {a : Am} {S : St} {h : Hp} {x y : Int32} (hx : x < 0 ∨ y ≤ x) : CT a 0 mX9_isOutside [.int x, .int y] S h (Rt (nI 1) S h) := by
  refine met_of (by decide +kernel) (Nat.le_of_ble_eq_true rfl) ?_
  show T a 0 mX9_isOutside 0 [(0, .int x), (1, .int y)] [] S h _
  refine tr_iload_n (pc := 0) 0 dX9_isOutside_0 rfl rfl ?_
  refine tr_if_lt (pc := 1) (tgt := 9) dX9_isOutside_1 (by decide) Iff.rfl (fun q1 => ?_) (fun q1 => ?_)
  · skip
    refine tr_iconst (pc := 9) (v := nI 1) dX9_isOutside_9 (by decide) ?_
    refine tr_goto (pc := 10) (tgt := 14) dX9_isOutside_10 (by decide) ?_
    exact tr_iret (pc := 14) dX9_isOutside_14 rfl (by decide) (⟨rfl, rfl, rfl⟩)
  · skip
    refine tr_iload_n (pc := 4) 0 dX9_isOutside_4 rfl rfl ?_
    refine tr_iload_n (pc := 5) 1 dX9_isOutside_5 rfl rfl ?_
    refine tr_icmp_lt (pc := 6) (tgt := 13) dX9_isOutside_6 (by decide) Iff.rfl (fun hcc => absurd hcc (Int32.not_lt.mpr (hx.resolve_left q1))) (fun _ => ?_)
    refine tr_iconst (pc := 9) (v := nI 1) dX9_isOutside_9 (by decide) ?_
    refine tr_goto (pc := 10) (tgt := 14) dX9_isOutside_10 (by decide) ?_
    exact tr_iret (pc := 14) dX9_isOutside_14 rfl (by decide) (⟨rfl, rfl, rfl⟩)

set_option maxHeartbeats 4000000 in
set_option maxRecDepth 100000 in
theorem c_count {a : Am} {S : St} {h : Hp} {o : Nat} {P : Prog} (hO : MO S o) (hM : MP h o P) (hV : VB P) : CT a 0 mX2_count [rv a o] S h (Rt (nI P.length) S h) := by
  obtain ⟨hV1, hV2, hV3⟩ := id hV
  refine met_of (by decide +kernel) (Nat.le_of_ble_eq_true rfl) ?_
  show T a 0 mX2_count 0 [(0, rv a o)] [] S h _
  refine tr_aload_n (pc := 0) 0 dX2_count_0 rfl rfl ?_
  refine tr_getI (pc := 1) (x := nI P.length) dX2_count_1 hO.1 fi_X2_18 rfl hM.1 ?_
  exact tr_iret (pc := 4) dX2_count_4 rfl rfl (⟨rfl, rfl, rfl⟩)

set_option maxHeartbeats 4000000 in
set_option maxRecDepth 100000 in
theorem c_has_in {a : Am} {S : St} {h : Hp} {o : Nat} {P : Prog} (hO : MO S o) (hM : MP h o P) (hV : VB P) {m : Nat} (hm : m < P.length) : CT a 0 mX2_has [rv a o, .int (nI m)] S h (Rt (nI 1) S h) := by
  obtain ⟨hV1, hV2, hV3⟩ := id hV
  refine met_of (by decide +kernel) (Nat.le_of_ble_eq_true rfl) ?_
  show T a 0 mX2_has 0 [(0, rv a o), (1, .int (nI m))] [] S h _
  refine tr_iload_n (pc := 0) 1 dX2_has_0 rfl rfl ?_
  refine tr_if_lt (pc := 1) (tgt := 16) dX2_has_1 (by decide) (nI_z_lt (by omega)) (fun hcc => absurd hcc (by decide)) (fun _ => ?_)
  refine tr_iload_n (pc := 4) 1 dX2_has_4 rfl rfl ?_
  refine tr_aload_n (pc := 5) 0 dX2_has_5 rfl rfl ?_
  refine tr_getI (pc := 6) (x := nI P.length) dX2_has_6 hO.1 fi_X2_18 rfl hM.1 ?_
  refine tr_icmp_ge (pc := 9) (tgt := 16) dX2_has_9 (by decide) (nI_leI (by omega) (by omega)) (fun hcc => absurd hcc (by omega)) (fun _ => ?_)
  refine tr_iconst (pc := 12) (v := nI 1) dX2_has_12 (by decide) ?_
  refine tr_goto (pc := 13) (tgt := 17) dX2_has_13 (by decide) ?_
  exact tr_iret (pc := 17) dX2_has_17 rfl (by decide) (⟨rfl, rfl, rfl⟩)

set_option maxHeartbeats 4000000 in
set_option maxRecDepth 100000 in
theorem c_has_out {a : Am} {S : St} {h : Hp} {o : Nat} {P : Prog} (hO : MO S o) (hM : MP h o P) (hV : VB P) {x : Int32} (hx : outN x P.length) : CT a 0 mX2_has [rv a o, .int x] S h (Rt (nI 0) S h) := by
  obtain ⟨hV1, hV2, hV3⟩ := id hV
  refine met_of (by decide +kernel) (Nat.le_of_ble_eq_true rfl) ?_
  show T a 0 mX2_has 0 [(0, rv a o), (1, .int x)] [] S h _
  refine tr_iload_n (pc := 0) 1 dX2_has_0 rfl rfl ?_
  refine tr_if_lt (pc := 1) (tgt := 16) dX2_has_1 (by decide) Iff.rfl (fun q1 => ?_) (fun q1 => ?_)
  · skip
    refine tr_iconst (pc := 16) (v := nI 0) dX2_has_16 (by decide) ?_
    exact tr_iret (pc := 17) dX2_has_17 rfl (by decide) (⟨rfl, rfl, rfl⟩)
  · skip
    refine tr_iload_n (pc := 4) 1 dX2_has_4 rfl rfl ?_
    refine tr_aload_n (pc := 5) 0 dX2_has_5 rfl rfl ?_
    refine tr_getI (pc := 6) (x := nI P.length) dX2_has_6 hO.1 fi_X2_18 rfl hM.1 ?_
    refine tr_icmp_ge (pc := 9) (tgt := 16) dX2_has_9 (by decide) Iff.rfl (fun _ => ?_) (fun hcc => absurd (hx.resolve_left q1) hcc)
    refine tr_iconst (pc := 16) (v := nI 0) dX2_has_16 (by decide) ?_
    exact tr_iret (pc := 17) dX2_has_17 rfl (by decide) (⟨rfl, rfl, rfl⟩)

set_option maxHeartbeats 4000000 in
set_option maxRecDepth 100000 in
theorem c_lines_in {a : Am} {S : St} {h : Hp} {o : Nat} {P : Prog} (hO : MO S o) (hM : MP h o P) (hV : VB P) {m : Nat} (hm : m < P.length) : CT a 1 mX2_lines [rv a o, .int (nI m)] S h (Rt (nI (lnN P m)) S h) := by
  obtain ⟨hV1, hV2, hV3⟩ := id hV
  refine met_of (by decide +kernel) (Nat.le_of_ble_eq_true rfl) ?_
  show T a 1 mX2_lines 0 [(0, rv a o), (1, .int (nI m))] [] S h _
  refine tr_aload_n (pc := 0) 0 dX2_lines_0 rfl rfl ?_
  refine tr_iload_n (pc := 1) 1 dX2_lines_1 rfl rfl ?_
  refine tr_callV (pc := 2) (rest := []) (ci := 2) dX2_lines_2 ml_X2_22 cv_X2_has rfl rfl (Nat.le_of_ble_eq_true rfl) hO.1 rfl (by omega) (c_has_in hO hM hV hm) ?_
  rintro _ _ _ ⟨rfl, rfl, rfl⟩
  show T a 1 mX2_lines 5 [(0, rv a o), (1, .int (nI m))] [.int (nI 1)] S h _
  refine tr_if_eq (pc := 5) (tgt := 17) dX2_lines_5 (by decide) (nI_z_eq (by omega)) (fun hcc => absurd hcc (by decide)) (fun _ => ?_)
  refine tr_aload_n (pc := 8) 0 dX2_lines_8 rfl rfl ?_
  refine tr_getR (pc := 9) (q := o + 1) dX2_lines_9 hO.1 fi_X2_9 rfl hO.2.2.2.1 ?_
  refine tr_iload_n (pc := 12) 1 dX2_lines_12 rfl rfl ?_
  refine tr_iald (pc := 13) (v := nI (lnN P m)) m dX2_lines_13 hO.2.1 rfl (by omega) (by decide) (hM.2.1 m hm) ?_
  refine tr_goto (pc := 14) (tgt := 18) dX2_lines_14 (by decide) ?_
  exact tr_iret (pc := 18) dX2_lines_18 rfl rfl (⟨rfl, rfl, rfl⟩)

set_option maxHeartbeats 4000000 in
set_option maxRecDepth 100000 in
theorem c_lines_out {a : Am} {S : St} {h : Hp} {o : Nat} {P : Prog} (hO : MO S o) (hM : MP h o P) (hV : VB P) {x : Int32} (hx : outN x P.length) : CT a 1 mX2_lines [rv a o, .int x] S h (Rt (nI 0) S h) := by
  obtain ⟨hV1, hV2, hV3⟩ := id hV
  refine met_of (by decide +kernel) (Nat.le_of_ble_eq_true rfl) ?_
  show T a 1 mX2_lines 0 [(0, rv a o), (1, .int x)] [] S h _
  refine tr_aload_n (pc := 0) 0 dX2_lines_0 rfl rfl ?_
  refine tr_iload_n (pc := 1) 1 dX2_lines_1 rfl rfl ?_
  refine tr_callV (pc := 2) (rest := []) (ci := 2) dX2_lines_2 ml_X2_22 cv_X2_has rfl rfl (Nat.le_of_ble_eq_true rfl) hO.1 rfl (by omega) (c_has_out hO hM hV hx) ?_
  rintro _ _ _ ⟨rfl, rfl, rfl⟩
  show T a 1 mX2_lines 5 [(0, rv a o), (1, .int x)] [.int (nI 0)] S h _
  refine tr_if_eq (pc := 5) (tgt := 17) dX2_lines_5 (by decide) (nI_z_eq (by omega)) (fun _ => ?_) (fun hcc => absurd (by decide) hcc)
  refine tr_iconst (pc := 17) (v := nI 0) dX2_lines_17 (by decide) ?_
  exact tr_iret (pc := 18) dX2_lines_18 rfl rfl (⟨rfl, rfl, rfl⟩)

set_option maxHeartbeats 4000000 in
set_option maxRecDepth 100000 in
theorem c_hasLine_in {a : Am} {S : St} {h : Hp} {o : Nat} {P : Prog} (hO : MO S o) (hM : MP h o P) (hV : VB P) {m j : Nat} (hj : j < lnN P m) : CT a 2 mX2_hasLine [rv a o, .int (nI m), .int (nI j)] S h (Rt (nI 1) S h) := by
  obtain ⟨hV1, hV2, hV3⟩ := id hV
  have hm8 := hV2 m
  refine met_of (by decide +kernel) (Nat.le_of_ble_eq_true rfl) ?_
  show T a 2 mX2_hasLine 0 [(0, rv a o), (1, .int (nI m)), (2, .int (nI j))] [] S h _
  refine tr_iload_n (pc := 0) 2 dX2_hasLine_0 rfl rfl ?_
  refine tr_if_lt (pc := 1) (tgt := 17) dX2_hasLine_1 (by decide) (nI_z_lt (by omega)) (fun hcc => absurd hcc (by decide)) (fun _ => ?_)
  refine tr_iload_n (pc := 4) 2 dX2_hasLine_4 rfl rfl ?_
  refine tr_aload_n (pc := 5) 0 dX2_hasLine_5 rfl rfl ?_
  refine tr_iload_n (pc := 6) 1 dX2_hasLine_6 rfl rfl ?_
  refine tr_callV (pc := 7) (rest := [.int (nI j)]) (ci := 2) dX2_hasLine_7 ml_X2_26 cv_X2_lines rfl rfl (Nat.le_of_ble_eq_true rfl) hO.1 rfl (by omega) (c_lines_in hO hM hV (lnN_lt hj)) ?_
  rintro _ _ _ ⟨rfl, rfl, rfl⟩
  show T a 2 mX2_hasLine 10 [(0, rv a o), (1, .int (nI m)), (2, .int (nI j))] [.int (nI (lnN P m)), .int (nI j)] S h _
  refine tr_icmp_ge (pc := 10) (tgt := 17) dX2_hasLine_10 (by decide) (nI_leI (by omega) (by omega)) (fun hcc => absurd hcc (by omega)) (fun _ => ?_)
  refine tr_iconst (pc := 13) (v := nI 1) dX2_hasLine_13 (by decide) ?_
  refine tr_goto (pc := 14) (tgt := 18) dX2_hasLine_14 (by decide) ?_
  exact tr_iret (pc := 18) dX2_hasLine_18 rfl (by decide) (⟨rfl, rfl, rfl⟩)

set_option maxHeartbeats 4000000 in
set_option maxRecDepth 100000 in
theorem c_hasLine_o1 {a : Am} {S : St} {h : Hp} {o : Nat} {P : Prog} (hO : MO S o) (hM : MP h o P) (hV : VB P) {x : Int32} {y : Int32} (hx : outN x P.length) : CT a 2 mX2_hasLine [rv a o, .int x, .int y] S h (Rt (nI 0) S h) := by
  obtain ⟨hV1, hV2, hV3⟩ := id hV
  refine met_of (by decide +kernel) (Nat.le_of_ble_eq_true rfl) ?_
  show T a 2 mX2_hasLine 0 [(0, rv a o), (1, .int x), (2, .int y)] [] S h _
  refine tr_iload_n (pc := 0) 2 dX2_hasLine_0 rfl rfl ?_
  refine tr_if_lt (pc := 1) (tgt := 17) dX2_hasLine_1 (by decide) Iff.rfl (fun q1 => ?_) (fun q1 => ?_)
  · skip
    refine tr_iconst (pc := 17) (v := nI 0) dX2_hasLine_17 (by decide) ?_
    exact tr_iret (pc := 18) dX2_hasLine_18 rfl (by decide) (⟨rfl, rfl, rfl⟩)
  · skip
    refine tr_iload_n (pc := 4) 2 dX2_hasLine_4 rfl rfl ?_
    refine tr_aload_n (pc := 5) 0 dX2_hasLine_5 rfl rfl ?_
    refine tr_iload_n (pc := 6) 1 dX2_hasLine_6 rfl rfl ?_
    refine tr_callV (pc := 7) (rest := [.int y]) (ci := 2) dX2_hasLine_7 ml_X2_26 cv_X2_lines rfl rfl (Nat.le_of_ble_eq_true rfl) hO.1 rfl (by omega) (c_lines_out hO hM hV hx) ?_
    rintro _ _ _ ⟨rfl, rfl, rfl⟩
    show T a 2 mX2_hasLine 10 [(0, rv a o), (1, .int x), (2, .int y)] [.int (nI 0), .int y] S h _
    refine tr_icmp_ge (pc := 10) (tgt := 17) dX2_hasLine_10 (by decide) Iff.rfl (fun _ => ?_) (fun hcc => absurd (by rw [nI_0]; exact Int32.not_lt.mp q1) hcc)
    refine tr_iconst (pc := 17) (v := nI 0) dX2_hasLine_17 (by decide) ?_
    exact tr_iret (pc := 18) dX2_hasLine_18 rfl (by decide) (⟨rfl, rfl, rfl⟩)

set_option maxHeartbeats 4000000 in
set_option maxRecDepth 100000 in
theorem c_hasLine_o2 {a : Am} {S : St} {h : Hp} {o : Nat} {P : Prog} (hO : MO S o) (hM : MP h o P) (hV : VB P) {m : Nat} {y : Int32} (hm : m < P.length) (hy : outN y (lnN P m)) : CT a 2 mX2_hasLine [rv a o, .int (nI m), .int y] S h (Rt (nI 0) S h) := by
  obtain ⟨hV1, hV2, hV3⟩ := id hV
  refine met_of (by decide +kernel) (Nat.le_of_ble_eq_true rfl) ?_
  show T a 2 mX2_hasLine 0 [(0, rv a o), (1, .int (nI m)), (2, .int y)] [] S h _
  refine tr_iload_n (pc := 0) 2 dX2_hasLine_0 rfl rfl ?_
  refine tr_if_lt (pc := 1) (tgt := 17) dX2_hasLine_1 (by decide) Iff.rfl (fun q1 => ?_) (fun q1 => ?_)
  · skip
    refine tr_iconst (pc := 17) (v := nI 0) dX2_hasLine_17 (by decide) ?_
    exact tr_iret (pc := 18) dX2_hasLine_18 rfl (by decide) (⟨rfl, rfl, rfl⟩)
  · skip
    refine tr_iload_n (pc := 4) 2 dX2_hasLine_4 rfl rfl ?_
    refine tr_aload_n (pc := 5) 0 dX2_hasLine_5 rfl rfl ?_
    refine tr_iload_n (pc := 6) 1 dX2_hasLine_6 rfl rfl ?_
    refine tr_callV (pc := 7) (rest := [.int y]) (ci := 2) dX2_hasLine_7 ml_X2_26 cv_X2_lines rfl rfl (Nat.le_of_ble_eq_true rfl) hO.1 rfl (by omega) (c_lines_in hO hM hV hm) ?_
    rintro _ _ _ ⟨rfl, rfl, rfl⟩
    show T a 2 mX2_hasLine 10 [(0, rv a o), (1, .int (nI m)), (2, .int y)] [.int (nI (lnN P m)), .int y] S h _
    refine tr_icmp_ge (pc := 10) (tgt := 17) dX2_hasLine_10 (by decide) Iff.rfl (fun _ => ?_) (fun hcc => absurd (hy.resolve_left q1) hcc)
    refine tr_iconst (pc := 17) (v := nI 0) dX2_hasLine_17 (by decide) ?_
    exact tr_iret (pc := 18) dX2_hasLine_18 rfl (by decide) (⟨rfl, rfl, rfl⟩)

set_option maxHeartbeats 4000000 in
set_option maxRecDepth 100000 in
theorem c_code {a : Am} {S : St} {h : Hp} {o : Nat} {P : Prog} (hO : MO S o) (hM : MP h o P) (hV : VB P) {m j : Nat} (hj : j < lnN P m) : CT a 0 mX2_code [rv a o, .int (nI m), .int (nI j)] S h (Rt (nI (enc (gt P m j))) S h) := by
  obtain ⟨hV1, hV2, hV3⟩ := id hV
  have hm8 := hV2 m
  have hm := lnN_lt hj
  have hok := hV3 m j hj
  refine met_of (by decide +kernel) (Nat.le_of_ble_eq_true rfl) ?_
  show T a 0 mX2_code 0 [(0, rv a o), (1, .int (nI m)), (2, .int (nI j))] [] S h _
  refine tr_iload_n (pc := 0) 1 dX2_code_0 rfl rfl ?_
  refine tr_if_lt (pc := 1) (tgt := 40) dX2_code_1 (by decide) (nI_z_lt (by omega)) (fun hcc => absurd hcc (by decide)) (fun _ => ?_)
  refine tr_iload_n (pc := 4) 1 dX2_code_4 rfl rfl ?_
  refine tr_aload_n (pc := 5) 0 dX2_code_5 rfl rfl ?_
  refine tr_getI (pc := 6) (x := nI P.length) dX2_code_6 hO.1 fi_X2_18 rfl hM.1 ?_
  refine tr_icmp_ge (pc := 9) (tgt := 40) dX2_code_9 (by decide) (nI_leI (by omega) (by omega)) (fun hcc => absurd hcc (by omega)) (fun _ => ?_)
  refine tr_iload_n (pc := 12) 2 dX2_code_12 rfl rfl ?_
  refine tr_if_lt (pc := 13) (tgt := 40) dX2_code_13 (by decide) (nI_z_lt (by omega)) (fun hcc => absurd hcc (by decide)) (fun _ => ?_)
  refine tr_iload_n (pc := 16) 2 dX2_code_16 rfl rfl ?_
  refine tr_aload_n (pc := 17) 0 dX2_code_17 rfl rfl ?_
  refine tr_getR (pc := 18) (q := o + 1) dX2_code_18 hO.1 fi_X2_9 rfl hO.2.2.2.1 ?_
  refine tr_iload_n (pc := 21) 1 dX2_code_21 rfl rfl ?_
  refine tr_iald (pc := 22) (v := nI (lnN P m)) m dX2_code_22 hO.2.1 rfl (by omega) (by decide) (hM.2.1 m hm) ?_
  refine tr_icmp_ge (pc := 23) (tgt := 40) dX2_code_23 (by decide) (nI_leI (by omega) (by omega)) (fun hcc => absurd hcc (by omega)) (fun _ => ?_)
  refine tr_aload_n (pc := 26) 0 dX2_code_26 rfl rfl ?_
  refine tr_getR (pc := 27) (q := o + 2) dX2_code_27 hO.1 fi_X2_15 rfl hO.2.2.2.2 ?_
  refine tr_iload_n (pc := 30) 1 dX2_code_30 rfl rfl ?_
  refine tr_bipush (pc := 31) (v := nI 8) dX2_code_31 (by decide) ?_
  refine tr_imul (pc := 33) (v := nI (m * 8)) dX2_code_33 (pk_mul _ _) ?_
  refine tr_iload_n (pc := 34) 2 dX2_code_34 rfl rfl ?_
  refine tr_iadd (pc := 35) (v := nI (m * 8 + j)) dX2_code_35 (nI_add _ _) ?_
  refine tr_iald (pc := 36) (v := nI (enc (gt P m j))) (m * 8 + j) dX2_code_36 hO.2.2.1 rfl (by omega) (by decide) (hM.2.2 m j hm hj) ?_
  refine tr_goto (pc := 37) (tgt := 41) dX2_code_37 (by decide) ?_
  exact tr_iret (pc := 41) dX2_code_41 rfl rfl (⟨rfl, rfl, rfl⟩)

set_option maxHeartbeats 4000000 in
set_option maxRecDepth 100000 in
theorem c_sort {a : Am} {S : St} {h : Hp} {o : Nat} {P : Prog} (hO : MO S o) (hM : MP h o P) (hV : VB P) {m j : Nat} (hj : j < lnN P m) : CT a 1 mX2_sort [rv a o, .int (nI m), .int (nI j)] S h (Rt (nI (gt P m j).1) S h) := by
  obtain ⟨hV1, hV2, hV3⟩ := id hV
  have hm8 := hV2 m
  have hm := lnN_lt hj
  have hok := hV3 m j hj
  refine met_of (by decide +kernel) (Nat.le_of_ble_eq_true rfl) ?_
  show T a 1 mX2_sort 0 [(0, rv a o), (1, .int (nI m)), (2, .int (nI j))] [] S h _
  refine tr_aload_n (pc := 0) 0 dX2_sort_0 rfl rfl ?_
  refine tr_iload_n (pc := 1) 1 dX2_sort_1 rfl rfl ?_
  refine tr_iload_n (pc := 2) 2 dX2_sort_2 rfl rfl ?_
  refine tr_callV (pc := 3) (rest := []) (ci := 2) dX2_sort_3 ml_X2_29 cv_X2_code rfl rfl (Nat.le_of_ble_eq_true rfl) hO.1 rfl (by omega) (c_code hO hM hV hj) ?_
  rintro _ _ _ ⟨rfl, rfl, rfl⟩
  show T a 1 mX2_sort 6 [(0, rv a o), (1, .int (nI m)), (2, .int (nI j))] [.int (nI (enc (gt P m j)))] S h _
  refine tr_bipush (pc := 6) (v := nI 7) dX2_sort_6 (by decide) ?_
  refine tr_iand (pc := 8) (v := nI ((gt P m j).1)) dX2_sort_8 (enc_sort hok) ?_
  exact tr_iret (pc := 9) dX2_sort_9 rfl rfl (⟨rfl, rfl, rfl⟩)

set_option maxHeartbeats 4000000 in
set_option maxRecDepth 100000 in
theorem c_name {a : Am} {S : St} {h : Hp} {o : Nat} {P : Prog} (hO : MO S o) (hM : MP h o P) (hV : VB P) {m j : Nat} (hj : j < lnN P m) : CT a 1 mX2_name [rv a o, .int (nI m), .int (nI j)] S h (Rt (nI (gt P m j).2.1) S h) := by
  obtain ⟨hV1, hV2, hV3⟩ := id hV
  have hm8 := hV2 m
  have hm := lnN_lt hj
  have hok := hV3 m j hj
  refine met_of (by decide +kernel) (Nat.le_of_ble_eq_true rfl) ?_
  show T a 1 mX2_name 0 [(0, rv a o), (1, .int (nI m)), (2, .int (nI j))] [] S h _
  refine tr_aload_n (pc := 0) 0 dX2_name_0 rfl rfl ?_
  refine tr_iload_n (pc := 1) 1 dX2_name_1 rfl rfl ?_
  refine tr_iload_n (pc := 2) 2 dX2_name_2 rfl rfl ?_
  refine tr_callV (pc := 3) (rest := []) (ci := 2) dX2_name_3 ml_X2_29 cv_X2_code rfl rfl (Nat.le_of_ble_eq_true rfl) hO.1 rfl (by omega) (c_code hO hM hV hj) ?_
  rintro _ _ _ ⟨rfl, rfl, rfl⟩
  show T a 1 mX2_name 6 [(0, rv a o), (1, .int (nI m)), (2, .int (nI j))] [.int (nI (enc (gt P m j)))] S h _
  refine tr_iconst (pc := 6) (v := nI 3) dX2_name_6 (by decide) ?_
  refine tr_ishr (pc := 7) (v := (nI (enc (gt P m j))) >>> (nI 3 &&& 31)) dX2_name_7 rfl ?_
  refine tr_iconst (pc := 8) (v := nI 3) dX2_name_8 (by decide) ?_
  refine tr_iand (pc := 9) (v := nI ((gt P m j).2.1)) dX2_name_9 (enc_name hok) ?_
  exact tr_iret (pc := 10) dX2_name_10 rfl rfl (⟨rfl, rfl, rfl⟩)

set_option maxHeartbeats 4000000 in
set_option maxRecDepth 100000 in
theorem c_other {a : Am} {S : St} {h : Hp} {o : Nat} {P : Prog} (hO : MO S o) (hM : MP h o P) (hV : VB P) {m j : Nat} (hj : j < lnN P m) : CT a 1 mX2_other [rv a o, .int (nI m), .int (nI j)] S h (Rt (nI (gt P m j).2.2.1) S h) := by
  obtain ⟨hV1, hV2, hV3⟩ := id hV
  have hm8 := hV2 m
  have hm := lnN_lt hj
  have hok := hV3 m j hj
  refine met_of (by decide +kernel) (Nat.le_of_ble_eq_true rfl) ?_
  show T a 1 mX2_other 0 [(0, rv a o), (1, .int (nI m)), (2, .int (nI j))] [] S h _
  refine tr_aload_n (pc := 0) 0 dX2_other_0 rfl rfl ?_
  refine tr_iload_n (pc := 1) 1 dX2_other_1 rfl rfl ?_
  refine tr_iload_n (pc := 2) 2 dX2_other_2 rfl rfl ?_
  refine tr_callV (pc := 3) (rest := []) (ci := 2) dX2_other_3 ml_X2_29 cv_X2_code rfl rfl (Nat.le_of_ble_eq_true rfl) hO.1 rfl (by omega) (c_code hO hM hV hj) ?_
  rintro _ _ _ ⟨rfl, rfl, rfl⟩
  show T a 1 mX2_other 6 [(0, rv a o), (1, .int (nI m)), (2, .int (nI j))] [.int (nI (enc (gt P m j)))] S h _
  refine tr_iconst (pc := 6) (v := nI 5) dX2_other_6 (by decide) ?_
  refine tr_ishr (pc := 7) (v := (nI (enc (gt P m j))) >>> (nI 5 &&& 31)) dX2_other_7 rfl ?_
  refine tr_iconst (pc := 8) (v := nI 3) dX2_other_8 (by decide) ?_
  refine tr_iand (pc := 9) (v := nI ((gt P m j).2.2.1)) dX2_other_9 (enc_other hok) ?_
  exact tr_iret (pc := 10) dX2_other_10 rfl rfl (⟨rfl, rfl, rfl⟩)

set_option maxHeartbeats 4000000 in
set_option maxRecDepth 100000 in
theorem c_callee {a : Am} {S : St} {h : Hp} {o : Nat} {P : Prog} (hO : MO S o) (hM : MP h o P) (hV : VB P) {m j : Nat} (hj : j < lnN P m) : CT a 1 mX2_callee [rv a o, .int (nI m), .int (nI j)] S h (Rt (nI (gt P m j).2.2.2) S h) := by
  obtain ⟨hV1, hV2, hV3⟩ := id hV
  have hm8 := hV2 m
  have hm := lnN_lt hj
  have hok := hV3 m j hj
  refine met_of (by decide +kernel) (Nat.le_of_ble_eq_true rfl) ?_
  show T a 1 mX2_callee 0 [(0, rv a o), (1, .int (nI m)), (2, .int (nI j))] [] S h _
  refine tr_aload_n (pc := 0) 0 dX2_callee_0 rfl rfl ?_
  refine tr_iload_n (pc := 1) 1 dX2_callee_1 rfl rfl ?_
  refine tr_iload_n (pc := 2) 2 dX2_callee_2 rfl rfl ?_
  refine tr_callV (pc := 3) (rest := []) (ci := 2) dX2_callee_3 ml_X2_29 cv_X2_code rfl rfl (Nat.le_of_ble_eq_true rfl) hO.1 rfl (by omega) (c_code hO hM hV hj) ?_
  rintro _ _ _ ⟨rfl, rfl, rfl⟩
  show T a 1 mX2_callee 6 [(0, rv a o), (1, .int (nI m)), (2, .int (nI j))] [.int (nI (enc (gt P m j)))] S h _
  refine tr_bipush (pc := 6) (v := nI 7) dX2_callee_6 (by decide) ?_
  refine tr_ishr (pc := 8) (v := (nI (enc (gt P m j))) >>> (nI 7 &&& 31)) dX2_callee_8 rfl ?_
  refine tr_iconst (pc := 9) (v := nI 3) dX2_callee_9 (by decide) ?_
  refine tr_iand (pc := 10) (v := nI ((gt P m j).2.2.2)) dX2_callee_10 (enc_callee hok) ?_
  exact tr_iret (pc := 11) dX2_callee_11 rfl rfl (⟨rfl, rfl, rfl⟩)

def hasY (s : Nat) : Bool := s == 1 || s == 2 || s == 3 || s == 7
set_option maxHeartbeats 4000000 in
set_option maxRecDepth 100000 in
theorem c_hasOther_y {a : Am} {S : St} {h : Hp} {o : Nat} {P : Prog} (hO : MO S o) (hM : MP h o P) (hV : VB P) {m j : Nat} (hj : j < lnN P m) (hy : hasY (gt P m j).1 = true) : CT a 2 mX2_hasOther [rv a o, .int (nI m), .int (nI j)] S h (Rt (nI 1) S h) := by
  obtain ⟨hV1, hV2, hV3⟩ := id hV
  have hm8 := hV2 m
  have hm := lnN_lt hj
  have hok := hV3 m j hj
  obtain ⟨k1, k2, k3, k4⟩ := id hok
  refine met_of (by decide +kernel) (Nat.le_of_ble_eq_true rfl) ?_
  show T a 2 mX2_hasOther 0 [(0, rv a o), (1, .int (nI m)), (2, .int (nI j))] [] S h _
  refine tr_aload_n (pc := 0) 0 dX2_hasOther_0 rfl rfl ?_
  refine tr_iload_n (pc := 1) 1 dX2_hasOther_1 rfl rfl ?_
  refine tr_iload_n (pc := 2) 2 dX2_hasOther_2 rfl rfl ?_
  refine tr_callV (pc := 3) (rest := []) (ci := 2) dX2_hasOther_3 ml_X2_33 cv_X2_sort rfl rfl (Nat.le_of_ble_eq_true rfl) hO.1 rfl (by omega) (c_sort hO hM hV hj) ?_
  rintro _ _ _ ⟨rfl, rfl, rfl⟩
  show T a 2 mX2_hasOther 6 [(0, rv a o), (1, .int (nI m)), (2, .int (nI j))] [.int (nI ((gt P m j).1))] S h _
  refine tr_istore_n (pc := 6) (lv' := [(3, .int (nI ((gt P m j).1))), (0, rv a o), (1, .int (nI m)), (2, .int (nI j))]) dX2_hasOther_6 rfl (by decide) rfl ?_
  refine tr_iload_n (pc := 7) 0 dX2_hasOther_7 rfl rfl ?_
  refine tr_iconst (pc := 8) (v := nI 1) dX2_hasOther_8 (by decide) ?_
  refine tr_icmp_eq (pc := 9) (tgt := 28) dX2_hasOther_9 (by decide) (nI_eq (by omega) (by omega)) (fun q1 => ?_) (fun q1 => ?_)
  · skip
    refine tr_iconst (pc := 28) (v := nI 1) dX2_hasOther_28 (by decide) ?_
    refine tr_goto (pc := 29) (tgt := 33) dX2_hasOther_29 (by decide) ?_
    exact tr_iret (pc := 33) dX2_hasOther_33 rfl (by decide) (⟨rfl, rfl, rfl⟩)
  · skip
    refine tr_iload_n (pc := 12) 0 dX2_hasOther_12 rfl rfl ?_
    refine tr_iconst (pc := 13) (v := nI 2) dX2_hasOther_13 (by decide) ?_
    refine tr_icmp_eq (pc := 14) (tgt := 28) dX2_hasOther_14 (by decide) (nI_eq (by omega) (by omega)) (fun q2 => ?_) (fun q2 => ?_)
    · skip
      refine tr_iconst (pc := 28) (v := nI 1) dX2_hasOther_28 (by decide) ?_
      refine tr_goto (pc := 29) (tgt := 33) dX2_hasOther_29 (by decide) ?_
      exact tr_iret (pc := 33) dX2_hasOther_33 rfl (by decide) (⟨rfl, rfl, rfl⟩)
    · skip
      refine tr_iload_n (pc := 17) 0 dX2_hasOther_17 rfl rfl ?_
      refine tr_iconst (pc := 18) (v := nI 3) dX2_hasOther_18 (by decide) ?_
      refine tr_icmp_eq (pc := 19) (tgt := 28) dX2_hasOther_19 (by decide) (nI_eq (by omega) (by omega)) (fun q3 => ?_) (fun q3 => ?_)
      · skip
        refine tr_iconst (pc := 28) (v := nI 1) dX2_hasOther_28 (by decide) ?_
        refine tr_goto (pc := 29) (tgt := 33) dX2_hasOther_29 (by decide) ?_
        exact tr_iret (pc := 33) dX2_hasOther_33 rfl (by decide) (⟨rfl, rfl, rfl⟩)
      · skip
        refine tr_iload_n (pc := 22) 0 dX2_hasOther_22 rfl rfl ?_
        refine tr_bipush (pc := 23) (v := nI 7) dX2_hasOther_23 (by decide) ?_
        refine tr_icmp_ne (pc := 25) (tgt := 32) dX2_hasOther_25 (by decide) (nI_eq (by omega) (by omega)) (fun hcc => absurd (by simp [hasY, q1, q2, q3] at hy; exact hy) hcc) (fun _ => ?_)
        refine tr_iconst (pc := 28) (v := nI 1) dX2_hasOther_28 (by decide) ?_
        refine tr_goto (pc := 29) (tgt := 33) dX2_hasOther_29 (by decide) ?_
        exact tr_iret (pc := 33) dX2_hasOther_33 rfl (by decide) (⟨rfl, rfl, rfl⟩)

set_option maxHeartbeats 4000000 in
set_option maxRecDepth 100000 in
theorem c_hasOther_n {a : Am} {S : St} {h : Hp} {o : Nat} {P : Prog} (hO : MO S o) (hM : MP h o P) (hV : VB P) {m j : Nat} (hj : j < lnN P m) (hy : hasY (gt P m j).1 = false) : CT a 2 mX2_hasOther [rv a o, .int (nI m), .int (nI j)] S h (Rt (nI 0) S h) := by
  obtain ⟨hV1, hV2, hV3⟩ := id hV
  have hm8 := hV2 m
  have hm := lnN_lt hj
  have hok := hV3 m j hj
  obtain ⟨k1, k2, k3, k4⟩ := id hok
  refine met_of (by decide +kernel) (Nat.le_of_ble_eq_true rfl) ?_
  show T a 2 mX2_hasOther 0 [(0, rv a o), (1, .int (nI m)), (2, .int (nI j))] [] S h _
  refine tr_aload_n (pc := 0) 0 dX2_hasOther_0 rfl rfl ?_
  refine tr_iload_n (pc := 1) 1 dX2_hasOther_1 rfl rfl ?_
  refine tr_iload_n (pc := 2) 2 dX2_hasOther_2 rfl rfl ?_
  refine tr_callV (pc := 3) (rest := []) (ci := 2) dX2_hasOther_3 ml_X2_33 cv_X2_sort rfl rfl (Nat.le_of_ble_eq_true rfl) hO.1 rfl (by omega) (c_sort hO hM hV hj) ?_
  rintro _ _ _ ⟨rfl, rfl, rfl⟩
  show T a 2 mX2_hasOther 6 [(0, rv a o), (1, .int (nI m)), (2, .int (nI j))] [.int (nI ((gt P m j).1))] S h _
  refine tr_istore_n (pc := 6) (lv' := [(3, .int (nI ((gt P m j).1))), (0, rv a o), (1, .int (nI m)), (2, .int (nI j))]) dX2_hasOther_6 rfl (by decide) rfl ?_
  refine tr_iload_n (pc := 7) 0 dX2_hasOther_7 rfl rfl ?_
  refine tr_iconst (pc := 8) (v := nI 1) dX2_hasOther_8 (by decide) ?_
  refine tr_icmp_eq (pc := 9) (tgt := 28) dX2_hasOther_9 (by decide) (nI_eq (by omega) (by omega)) (fun hcc => absurd hcc (by simp [hasY] at hy; omega)) (fun _ => ?_)
  refine tr_iload_n (pc := 12) 0 dX2_hasOther_12 rfl rfl ?_
  refine tr_iconst (pc := 13) (v := nI 2) dX2_hasOther_13 (by decide) ?_
  refine tr_icmp_eq (pc := 14) (tgt := 28) dX2_hasOther_14 (by decide) (nI_eq (by omega) (by omega)) (fun hcc => absurd hcc (by simp [hasY] at hy; omega)) (fun _ => ?_)
  refine tr_iload_n (pc := 17) 0 dX2_hasOther_17 rfl rfl ?_
  refine tr_iconst (pc := 18) (v := nI 3) dX2_hasOther_18 (by decide) ?_
  refine tr_icmp_eq (pc := 19) (tgt := 28) dX2_hasOther_19 (by decide) (nI_eq (by omega) (by omega)) (fun hcc => absurd hcc (by simp [hasY] at hy; omega)) (fun _ => ?_)
  refine tr_iload_n (pc := 22) 0 dX2_hasOther_22 rfl rfl ?_
  refine tr_bipush (pc := 23) (v := nI 7) dX2_hasOther_23 (by decide) ?_
  refine tr_icmp_ne (pc := 25) (tgt := 32) dX2_hasOther_25 (by decide) (nI_eq (by omega) (by omega)) (fun _ => ?_) (fun hcc => absurd hcc (by simp [hasY] at hy; omega))
  refine tr_iconst (pc := 32) (v := nI 0) dX2_hasOther_32 (by decide) ?_
  exact tr_iret (pc := 33) dX2_hasOther_33 rfl (by decide) (⟨rfl, rfl, rfl⟩)
end
