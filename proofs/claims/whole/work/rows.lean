section
-- ===== PART A: goes FIRST, ahead of the names: the tables' words, and 'selects' of the private methods out of them =====
/-- a private method of a class that the tables say can be made, by its rows of tables_1 -/
def lw_okq (q : MethodName × Nat) : Prop := (q.1.cls ≠ "java/lang/invoke/MethodHandle" ∧ q.1.cls ≠ "java/lang/invoke/VarHandle") ∧ Cond.instantiable q.1.cls q.2 ∈ tables_1 ∧ Cond.privateMethod q.1 ∈ tables_1 ∧ Cond.instanceMethod q.1 ∈ tables_1
theorem lw_p0 : lw_okq (⟨"OfficeholdersRoll", "areTogetherForRival", "(II)Z"⟩, 16) := ⟨⟨by decide +kernel, by decide +kernel⟩, List.mem_of_getElem? (i := 17) (by decide +kernel), List.mem_of_getElem? (i := 207) (by decide +kernel), List.mem_of_getElem? (i := 208) (by decide +kernel)⟩
theorem lw_p1 : lw_okq (⟨"java/lang/Throwable", "fillInStackTrace", "(I)Ljava/lang/Throwable;"⟩, 6) := ⟨⟨by decide +kernel, by decide +kernel⟩, List.mem_of_getElem? (i := 266) (by decide +kernel), List.mem_of_getElem? (i := 264) (by decide +kernel), List.mem_of_getElem? (i := 265) (by decide +kernel)⟩
theorem lw_p2 : lw_okq (⟨"OfficeholdersRoll", "needRoomForPerson", "()V"⟩, 16) := ⟨⟨by decide +kernel, by decide +kernel⟩, List.mem_of_getElem? (i := 17) (by decide +kernel), List.mem_of_getElem? (i := 331) (by decide +kernel), List.mem_of_getElem? (i := 332) (by decide +kernel)⟩
theorem lw_p3 : lw_okq (⟨"OfficeholdersRoll$Pairs", "mark", "(IIZ)V"⟩, 1) := ⟨⟨by decide +kernel, by decide +kernel⟩, List.mem_of_getElem? (i := 39) (by decide +kernel), List.mem_of_getElem? (i := 372) (by decide +kernel), List.mem_of_getElem? (i := 373) (by decide +kernel)⟩
theorem lw_p4 : lw_okq (⟨"OfficeholdersRoll", "needTwoMentions", "(II)V"⟩, 16) := ⟨⟨by decide +kernel, by decide +kernel⟩, List.mem_of_getElem? (i := 17) (by decide +kernel), List.mem_of_getElem? (i := 384) (by decide +kernel), List.mem_of_getElem? (i := 385) (by decide +kernel)⟩
theorem lw_p5 : lw_okq (⟨"OfficeholdersRoll", "needMention", "(I)V"⟩, 16) := ⟨⟨by decide +kernel, by decide +kernel⟩, List.mem_of_getElem? (i := 17) (by decide +kernel), List.mem_of_getElem? (i := 388) (by decide +kernel), List.mem_of_getElem? (i := 389) (by decide +kernel)⟩
theorem lw_p6 : lw_okq (⟨"OfficeholdersRoll$Years", "tryDating", "()I"⟩, 11) := ⟨⟨by decide +kernel, by decide +kernel⟩, List.mem_of_getElem? (i := 51) (by decide +kernel), List.mem_of_getElem? (i := 403) (by decide +kernel), List.mem_of_getElem? (i := 404) (by decide +kernel)⟩
theorem lw_p7 : lw_okq (⟨"OfficeholdersRoll$Years", "comesToRest", "()Z"⟩, 11) := ⟨⟨by decide +kernel, by decide +kernel⟩, List.mem_of_getElem? (i := 51) (by decide +kernel), List.mem_of_getElem? (i := 412) (by decide +kernel), List.mem_of_getElem? (i := 413) (by decide +kernel)⟩
theorem lw_p8 : lw_okq (⟨"OfficeholdersRoll$Years", "pushAll", "()Z"⟩, 11) := ⟨⟨by decide +kernel, by decide +kernel⟩, List.mem_of_getElem? (i := 51) (by decide +kernel), List.mem_of_getElem? (i := 416) (by decide +kernel), List.mem_of_getElem? (i := 417) (by decide +kernel)⟩
theorem lw_p9 : lw_okq (⟨"OfficeholdersRoll$Years", "leavesYears", "()Z"⟩, 11) := ⟨⟨by decide +kernel, by decide +kernel⟩, List.mem_of_getElem? (i := 51) (by decide +kernel), List.mem_of_getElem? (i := 421) (by decide +kernel), List.mem_of_getElem? (i := 422) (by decide +kernel)⟩
theorem lw_p10 : lw_okq (⟨"OfficeholdersRoll$Years", "countMoved", "()I"⟩, 11) := ⟨⟨by decide +kernel, by decide +kernel⟩, List.mem_of_getElem? (i := 51) (by decide +kernel), List.mem_of_getElem? (i := 425) (by decide +kernel), List.mem_of_getElem? (i := 426) (by decide +kernel)⟩
theorem lw_p11 : lw_okq (⟨"OfficeholdersRoll$Years", "keepTried", "()V"⟩, 11) := ⟨⟨by decide +kernel, by decide +kernel⟩, List.mem_of_getElem? (i := 51) (by decide +kernel), List.mem_of_getElem? (i := 429) (by decide +kernel), List.mem_of_getElem? (i := 430) (by decide +kernel)⟩
theorem lw_p12 : lw_okq (⟨"OfficeholdersRoll$Years", "measureWays", "()V"⟩, 11) := ⟨⟨by decide +kernel, by decide +kernel⟩, List.mem_of_getElem? (i := 51) (by decide +kernel), List.mem_of_getElem? (i := 493) (by decide +kernel), List.mem_of_getElem? (i := 494) (by decide +kernel)⟩
theorem lw_p13 : lw_okq (⟨"OfficeholdersRoll$Years", "lengthen", "(III)V"⟩, 11) := ⟨⟨by decide +kernel, by decide +kernel⟩, List.mem_of_getElem? (i := 51) (by decide +kernel), List.mem_of_getElem? (i := 498) (by decide +kernel), List.mem_of_getElem? (i := 499) (by decide +kernel)⟩
theorem lw_p14 : lw_okq (⟨"OfficeholdersRoll$Years", "wayBetween", "(II)I"⟩, 11) := ⟨⟨by decide +kernel, by decide +kernel⟩, List.mem_of_getElem? (i := 51) (by decide +kernel), List.mem_of_getElem? (i := 502) (by decide +kernel), List.mem_of_getElem? (i := 503) (by decide +kernel)⟩
theorem lw_p15 : lw_okq (⟨"OfficeholdersRoll$Years", "lengthenAllVia", "(II)V"⟩, 11) := ⟨⟨by decide +kernel, by decide +kernel⟩, List.mem_of_getElem? (i := 51) (by decide +kernel), List.mem_of_getElem? (i := 506) (by decide +kernel), List.mem_of_getElem? (i := 507) (by decide +kernel)⟩
def lw_privs_1 : List (MethodName × Nat) := [(⟨"OfficeholdersRoll", "areTogetherForRival", "(II)Z"⟩, 16), (⟨"java/lang/Throwable", "fillInStackTrace", "(I)Ljava/lang/Throwable;"⟩, 6), (⟨"OfficeholdersRoll", "needRoomForPerson", "()V"⟩, 16), (⟨"OfficeholdersRoll$Pairs", "mark", "(IIZ)V"⟩, 1), (⟨"OfficeholdersRoll", "needTwoMentions", "(II)V"⟩, 16), (⟨"OfficeholdersRoll", "needMention", "(I)V"⟩, 16), (⟨"OfficeholdersRoll$Years", "tryDating", "()I"⟩, 11), (⟨"OfficeholdersRoll$Years", "comesToRest", "()Z"⟩, 11), (⟨"OfficeholdersRoll$Years", "pushAll", "()Z"⟩, 11), (⟨"OfficeholdersRoll$Years", "leavesYears", "()Z"⟩, 11), (⟨"OfficeholdersRoll$Years", "countMoved", "()I"⟩, 11), (⟨"OfficeholdersRoll$Years", "keepTried", "()V"⟩, 11), (⟨"OfficeholdersRoll$Years", "measureWays", "()V"⟩, 11), (⟨"OfficeholdersRoll$Years", "lengthen", "(III)V"⟩, 11), (⟨"OfficeholdersRoll$Years", "wayBetween", "(II)I"⟩, 11), (⟨"OfficeholdersRoll$Years", "lengthenAllVia", "(II)V"⟩, 11)]
theorem lw_r1 : ∀ q ∈ lw_privs_1, lw_okq q := List.forall_mem_cons.mpr ⟨lw_p0, List.forall_mem_cons.mpr ⟨lw_p1, List.forall_mem_cons.mpr ⟨lw_p2, List.forall_mem_cons.mpr ⟨lw_p3, List.forall_mem_cons.mpr ⟨lw_p4, List.forall_mem_cons.mpr ⟨lw_p5, List.forall_mem_cons.mpr ⟨lw_p6, List.forall_mem_cons.mpr ⟨lw_p7, List.forall_mem_cons.mpr ⟨lw_p8, List.forall_mem_cons.mpr ⟨lw_p9, List.forall_mem_cons.mpr ⟨lw_p10, List.forall_mem_cons.mpr ⟨lw_p11, List.forall_mem_cons.mpr ⟨lw_p12, List.forall_mem_cons.mpr ⟨lw_p13, List.forall_mem_cons.mpr ⟨lw_p14, List.forall_mem_cons.mpr ⟨lw_p15, fun _ h => absurd h List.not_mem_nil⟩⟩⟩⟩⟩⟩⟩⟩⟩⟩⟩⟩⟩⟩⟩⟩
theorem lw_p16 : lw_okq (⟨"OfficeholdersRoll", "weightOf", "(II)I"⟩, 16) := ⟨⟨by decide +kernel, by decide +kernel⟩, List.mem_of_getElem? (i := 17) (by decide +kernel), List.mem_of_getElem? (i := 535) (by decide +kernel), List.mem_of_getElem? (i := 536) (by decide +kernel)⟩
theorem lw_p17 : lw_okq (⟨"OfficeholdersRoll", "reasonAgainst", "(II)I"⟩, 16) := ⟨⟨by decide +kernel, by decide +kernel⟩, List.mem_of_getElem? (i := 17) (by decide +kernel), List.mem_of_getElem? (i := 547) (by decide +kernel), List.mem_of_getElem? (i := 548) (by decide +kernel)⟩
theorem lw_p18 : lw_okq (⟨"OfficeholdersRoll", "reasonAgainstAny", "(II)I"⟩, 16) := ⟨⟨by decide +kernel, by decide +kernel⟩, List.mem_of_getElem? (i := 17) (by decide +kernel), List.mem_of_getElem? (i := 551) (by decide +kernel), List.mem_of_getElem? (i := 552) (by decide +kernel)⟩
theorem lw_p19 : lw_okq (⟨"OfficeholdersRoll", "reasonOfPair", "(II)I"⟩, 16) := ⟨⟨by decide +kernel, by decide +kernel⟩, List.mem_of_getElem? (i := 17) (by decide +kernel), List.mem_of_getElem? (i := 555) (by decide +kernel), List.mem_of_getElem? (i := 556) (by decide +kernel)⟩
theorem lw_p20 : lw_okq (⟨"OfficeholdersRoll", "haveOtherFamilies", "(II)Z"⟩, 16) := ⟨⟨by decide +kernel, by decide +kernel⟩, List.mem_of_getElem? (i := 17) (by decide +kernel), List.mem_of_getElem? (i := 559) (by decide +kernel), List.mem_of_getElem? (i := 560) (by decide +kernel)⟩
theorem lw_p21 : lw_okq (⟨"OfficeholdersRoll", "areBarredAtOnce", "(II)Z"⟩, 16) := ⟨⟨by decide +kernel, by decide +kernel⟩, List.mem_of_getElem? (i := 17) (by decide +kernel), List.mem_of_getElem? (i := 563) (by decide +kernel), List.mem_of_getElem? (i := 564) (by decide +kernel)⟩
theorem lw_p22 : lw_okq (⟨"OfficeholdersRoll", "mentionsOf", "(I)I"⟩, 16) := ⟨⟨by decide +kernel, by decide +kernel⟩, List.mem_of_getElem? (i := 17) (by decide +kernel), List.mem_of_getElem? (i := 593) (by decide +kernel), List.mem_of_getElem? (i := 594) (by decide +kernel)⟩
theorem lw_p23 : lw_okq (⟨"OfficeholdersRoll", "needPerson", "(I)V"⟩, 16) := ⟨⟨by decide +kernel, by decide +kernel⟩, List.mem_of_getElem? (i := 17) (by decide +kernel), List.mem_of_getElem? (i := 612) (by decide +kernel), List.mem_of_getElem? (i := 613) (by decide +kernel)⟩
theorem lw_p24 : lw_okq (⟨"OfficeholdersRoll", "layOutCareer", "(I)I"⟩, 16) := ⟨⟨by decide +kernel, by decide +kernel⟩, List.mem_of_getElem? (i := 17) (by decide +kernel), List.mem_of_getElem? (i := 636) (by decide +kernel), List.mem_of_getElem? (i := 637) (by decide +kernel)⟩
theorem lw_p25 : lw_okq (⟨"OfficeholdersRoll", "putInCareer", "(II)V"⟩, 16) := ⟨⟨by decide +kernel, by decide +kernel⟩, List.mem_of_getElem? (i := 17) (by decide +kernel), List.mem_of_getElem? (i := 640) (by decide +kernel), List.mem_of_getElem? (i := 641) (by decide +kernel)⟩
theorem lw_p26 : lw_okq (⟨"OfficeholdersRoll", "rankAt", "(I)I"⟩, 16) := ⟨⟨by decide +kernel, by decide +kernel⟩, List.mem_of_getElem? (i := 17) (by decide +kernel), List.mem_of_getElem? (i := 651) (by decide +kernel), List.mem_of_getElem? (i := 652) (by decide +kernel)⟩
theorem lw_p27 : lw_okq (⟨"OfficeholdersRoll", "stepsBetween", "(II)I"⟩, 16) := ⟨⟨by decide +kernel, by decide +kernel⟩, List.mem_of_getElem? (i := 17) (by decide +kernel), List.mem_of_getElem? (i := 669) (by decide +kernel), List.mem_of_getElem? (i := 670) (by decide +kernel)⟩
theorem lw_p28 : lw_okq (⟨"OfficeholdersRoll", "stepOn", "(I)V"⟩, 16) := ⟨⟨by decide +kernel, by decide +kernel⟩, List.mem_of_getElem? (i := 17) (by decide +kernel), List.mem_of_getElem? (i := 674) (by decide +kernel), List.mem_of_getElem? (i := 675) (by decide +kernel)⟩
theorem lw_p29 : lw_okq (⟨"OfficeholdersRoll", "reachKinOf", "(II)V"⟩, 16) := ⟨⟨by decide +kernel, by decide +kernel⟩, List.mem_of_getElem? (i := 17) (by decide +kernel), List.mem_of_getElem? (i := 678) (by decide +kernel), List.mem_of_getElem? (i := 679) (by decide +kernel)⟩
theorem lw_p30 : lw_okq (⟨"OfficeholdersRoll", "needFewMentions", "(I)V"⟩, 16) := ⟨⟨by decide +kernel, by decide +kernel⟩, List.mem_of_getElem? (i := 17) (by decide +kernel), List.mem_of_getElem? (i := 689) (by decide +kernel), List.mem_of_getElem? (i := 690) (by decide +kernel)⟩
theorem lw_p31 : lw_okq (⟨"OfficeholdersRoll", "layOutPairs", "(I)V"⟩, 16) := ⟨⟨by decide +kernel, by decide +kernel⟩, List.mem_of_getElem? (i := 17) (by decide +kernel), List.mem_of_getElem? (i := 700) (by decide +kernel), List.mem_of_getElem? (i := 701) (by decide +kernel)⟩
def lw_privs_2 : List (MethodName × Nat) := [(⟨"OfficeholdersRoll", "weightOf", "(II)I"⟩, 16), (⟨"OfficeholdersRoll", "reasonAgainst", "(II)I"⟩, 16), (⟨"OfficeholdersRoll", "reasonAgainstAny", "(II)I"⟩, 16), (⟨"OfficeholdersRoll", "reasonOfPair", "(II)I"⟩, 16), (⟨"OfficeholdersRoll", "haveOtherFamilies", "(II)Z"⟩, 16), (⟨"OfficeholdersRoll", "areBarredAtOnce", "(II)Z"⟩, 16), (⟨"OfficeholdersRoll", "mentionsOf", "(I)I"⟩, 16), (⟨"OfficeholdersRoll", "needPerson", "(I)V"⟩, 16), (⟨"OfficeholdersRoll", "layOutCareer", "(I)I"⟩, 16), (⟨"OfficeholdersRoll", "putInCareer", "(II)V"⟩, 16), (⟨"OfficeholdersRoll", "rankAt", "(I)I"⟩, 16), (⟨"OfficeholdersRoll", "stepsBetween", "(II)I"⟩, 16), (⟨"OfficeholdersRoll", "stepOn", "(I)V"⟩, 16), (⟨"OfficeholdersRoll", "reachKinOf", "(II)V"⟩, 16), (⟨"OfficeholdersRoll", "needFewMentions", "(I)V"⟩, 16), (⟨"OfficeholdersRoll", "layOutPairs", "(I)V"⟩, 16)]
theorem lw_r2 : ∀ q ∈ lw_privs_2, lw_okq q := List.forall_mem_cons.mpr ⟨lw_p16, List.forall_mem_cons.mpr ⟨lw_p17, List.forall_mem_cons.mpr ⟨lw_p18, List.forall_mem_cons.mpr ⟨lw_p19, List.forall_mem_cons.mpr ⟨lw_p20, List.forall_mem_cons.mpr ⟨lw_p21, List.forall_mem_cons.mpr ⟨lw_p22, List.forall_mem_cons.mpr ⟨lw_p23, List.forall_mem_cons.mpr ⟨lw_p24, List.forall_mem_cons.mpr ⟨lw_p25, List.forall_mem_cons.mpr ⟨lw_p26, List.forall_mem_cons.mpr ⟨lw_p27, List.forall_mem_cons.mpr ⟨lw_p28, List.forall_mem_cons.mpr ⟨lw_p29, List.forall_mem_cons.mpr ⟨lw_p30, List.forall_mem_cons.mpr ⟨lw_p31, fun _ h => absurd h List.not_mem_nil⟩⟩⟩⟩⟩⟩⟩⟩⟩⟩⟩⟩⟩⟩⟩⟩
theorem lw_p32 : lw_okq (⟨"OfficeholdersRoll", "worthOfPair", "(II)I"⟩, 16) := ⟨⟨by decide +kernel, by decide +kernel⟩, List.mem_of_getElem? (i := 17) (by decide +kernel), List.mem_of_getElem? (i := 722) (by decide +kernel), List.mem_of_getElem? (i := 723) (by decide +kernel)⟩
theorem lw_p33 : lw_okq (⟨"OfficeholdersRoll$Groupings", "worthOfGroup", "(I)I"⟩, 6) := ⟨⟨by decide +kernel, by decide +kernel⟩, List.mem_of_getElem? (i := 115) (by decide +kernel), List.mem_of_getElem? (i := 735) (by decide +kernel), List.mem_of_getElem? (i := 736) (by decide +kernel)⟩
theorem lw_p34 : lw_okq (⟨"OfficeholdersRoll$Groupings", "pairWorth", "(II)I"⟩, 6) := ⟨⟨by decide +kernel, by decide +kernel⟩, List.mem_of_getElem? (i := 115) (by decide +kernel), List.mem_of_getElem? (i := 739) (by decide +kernel), List.mem_of_getElem? (i := 740) (by decide +kernel)⟩
theorem lw_p35 : lw_okq (⟨"OfficeholdersRoll$Groupings", "bestOfSet", "(I)I"⟩, 6) := ⟨⟨by decide +kernel, by decide +kernel⟩, List.mem_of_getElem? (i := 115) (by decide +kernel), List.mem_of_getElem? (i := 744) (by decide +kernel), List.mem_of_getElem? (i := 745) (by decide +kernel)⟩
theorem lw_p36 : lw_okq (⟨"OfficeholdersRoll$Groupings", "worthOfGrouping", "()I"⟩, 6) := ⟨⟨by decide +kernel, by decide +kernel⟩, List.mem_of_getElem? (i := 115) (by decide +kernel), List.mem_of_getElem? (i := 761) (by decide +kernel), List.mem_of_getElem? (i := 762) (by decide +kernel)⟩
theorem lw_p37 : lw_okq (⟨"OfficeholdersRoll$Groupings", "goOnToNext", "()Z"⟩, 6) := ⟨⟨by decide +kernel, by decide +kernel⟩, List.mem_of_getElem? (i := 115) (by decide +kernel), List.mem_of_getElem? (i := 765) (by decide +kernel), List.mem_of_getElem? (i := 766) (by decide +kernel)⟩
theorem lw_p38 : lw_okq (⟨"OfficeholdersRoll$Groupings", "greatestGroupBefore", "(I)I"⟩, 6) := ⟨⟨by decide +kernel, by decide +kernel⟩, List.mem_of_getElem? (i := 115) (by decide +kernel), List.mem_of_getElem? (i := 769) (by decide +kernel), List.mem_of_getElem? (i := 770) (by decide +kernel)⟩
theorem lw_p39 : lw_okq (⟨"OfficeholdersRollModel", "adds", "(I)I"⟩, 28) := ⟨⟨by decide +kernel, by decide +kernel⟩, List.mem_of_getElem? (i := 780) (by decide +kernel), List.mem_of_getElem? (i := 885) (by decide +kernel), List.mem_of_getElem? (i := 886) (by decide +kernel)⟩
theorem lw_p40 : lw_okq (⟨"OfficeholdersRollModel", "isMention", "(I)Z"⟩, 28) := ⟨⟨by decide +kernel, by decide +kernel⟩, List.mem_of_getElem? (i := 780) (by decide +kernel), List.mem_of_getElem? (i := 904) (by decide +kernel), List.mem_of_getElem? (i := 905) (by decide +kernel)⟩
theorem lw_p41 : lw_okq (⟨"OfficeholdersRollModel", "dates", "()Z"⟩, 28) := ⟨⟨by decide +kernel, by decide +kernel⟩, List.mem_of_getElem? (i := 780) (by decide +kernel), List.mem_of_getElem? (i := 908) (by decide +kernel), List.mem_of_getElem? (i := 909) (by decide +kernel)⟩
theorem lw_p42 : lw_okq (⟨"OfficeholdersRollModel", "moves", "()I"⟩, 28) := ⟨⟨by decide +kernel, by decide +kernel⟩, List.mem_of_getElem? (i := 780) (by decide +kernel), List.mem_of_getElem? (i := 912) (by decide +kernel), List.mem_of_getElem? (i := 913) (by decide +kernel)⟩
theorem lw_p43 : lw_okq (⟨"OfficeholdersRollModel", "keeps", "()V"⟩, 28) := ⟨⟨by decide +kernel, by decide +kernel⟩, List.mem_of_getElem? (i := 780) (by decide +kernel), List.mem_of_getElem? (i := 916) (by decide +kernel), List.mem_of_getElem? (i := 917) (by decide +kernel)⟩
theorem lw_p44 : lw_okq (⟨"OfficeholdersRollModel", "areYears", "(II)Z"⟩, 28) := ⟨⟨by decide +kernel, by decide +kernel⟩, List.mem_of_getElem? (i := 780) (by decide +kernel), List.mem_of_getElem? (i := 924) (by decide +kernel), List.mem_of_getElem? (i := 925) (by decide +kernel)⟩
theorem lw_p45 : lw_okq (⟨"OfficeholdersRollModel", "finds", "(IIIZ)I"⟩, 28) := ⟨⟨by decide +kernel, by decide +kernel⟩, List.mem_of_getElem? (i := 780) (by decide +kernel), List.mem_of_getElem? (i := 928) (by decide +kernel), List.mem_of_getElem? (i := 929) (by decide +kernel)⟩
theorem lw_p46 : lw_okq (⟨"OfficeholdersRollModel", "tellsYear", "(IZ)I"⟩, 28) := ⟨⟨by decide +kernel, by decide +kernel⟩, List.mem_of_getElem? (i := 780) (by decide +kernel), List.mem_of_getElem? (i := 940) (by decide +kernel), List.mem_of_getElem? (i := 941) (by decide +kernel)⟩
theorem lw_p47 : lw_okq (⟨"OfficeholdersRollModel", "asksTwo", "(II)Z"⟩, 28) := ⟨⟨by decide +kernel, by decide +kernel⟩, List.mem_of_getElem? (i := 780) (by decide +kernel), List.mem_of_getElem? (i := 952) (by decide +kernel), List.mem_of_getElem? (i := 953) (by decide +kernel)⟩
def lw_privs_3 : List (MethodName × Nat) := [(⟨"OfficeholdersRoll", "worthOfPair", "(II)I"⟩, 16), (⟨"OfficeholdersRoll$Groupings", "worthOfGroup", "(I)I"⟩, 6), (⟨"OfficeholdersRoll$Groupings", "pairWorth", "(II)I"⟩, 6), (⟨"OfficeholdersRoll$Groupings", "bestOfSet", "(I)I"⟩, 6), (⟨"OfficeholdersRoll$Groupings", "worthOfGrouping", "()I"⟩, 6), (⟨"OfficeholdersRoll$Groupings", "goOnToNext", "()Z"⟩, 6), (⟨"OfficeholdersRoll$Groupings", "greatestGroupBefore", "(I)I"⟩, 6), (⟨"OfficeholdersRollModel", "adds", "(I)I"⟩, 28), (⟨"OfficeholdersRollModel", "isMention", "(I)Z"⟩, 28), (⟨"OfficeholdersRollModel", "dates", "()Z"⟩, 28), (⟨"OfficeholdersRollModel", "moves", "()I"⟩, 28), (⟨"OfficeholdersRollModel", "keeps", "()V"⟩, 28), (⟨"OfficeholdersRollModel", "areYears", "(II)Z"⟩, 28), (⟨"OfficeholdersRollModel", "finds", "(IIIZ)I"⟩, 28), (⟨"OfficeholdersRollModel", "tellsYear", "(IZ)I"⟩, 28), (⟨"OfficeholdersRollModel", "asksTwo", "(II)Z"⟩, 28)]
theorem lw_r3 : ∀ q ∈ lw_privs_3, lw_okq q := List.forall_mem_cons.mpr ⟨lw_p32, List.forall_mem_cons.mpr ⟨lw_p33, List.forall_mem_cons.mpr ⟨lw_p34, List.forall_mem_cons.mpr ⟨lw_p35, List.forall_mem_cons.mpr ⟨lw_p36, List.forall_mem_cons.mpr ⟨lw_p37, List.forall_mem_cons.mpr ⟨lw_p38, List.forall_mem_cons.mpr ⟨lw_p39, List.forall_mem_cons.mpr ⟨lw_p40, List.forall_mem_cons.mpr ⟨lw_p41, List.forall_mem_cons.mpr ⟨lw_p42, List.forall_mem_cons.mpr ⟨lw_p43, List.forall_mem_cons.mpr ⟨lw_p44, List.forall_mem_cons.mpr ⟨lw_p45, List.forall_mem_cons.mpr ⟨lw_p46, List.forall_mem_cons.mpr ⟨lw_p47, fun _ h => absurd h List.not_mem_nil⟩⟩⟩⟩⟩⟩⟩⟩⟩⟩⟩⟩⟩⟩⟩⟩
theorem lw_p48 : lw_okq (⟨"OfficeholdersRollModel", "weightOf", "(II)I"⟩, 28) := ⟨⟨by decide +kernel, by decide +kernel⟩, List.mem_of_getElem? (i := 780) (by decide +kernel), List.mem_of_getElem? (i := 964) (by decide +kernel), List.mem_of_getElem? (i := 965) (by decide +kernel)⟩
theorem lw_p49 : lw_okq (⟨"OfficeholdersRollModel", "reason", "(II)I"⟩, 28) := ⟨⟨by decide +kernel, by decide +kernel⟩, List.mem_of_getElem? (i := 780) (by decide +kernel), List.mem_of_getElem? (i := 972) (by decide +kernel), List.mem_of_getElem? (i := 973) (by decide +kernel)⟩
theorem lw_p50 : lw_okq (⟨"OfficeholdersRollModel", "hasReason", "(III)Z"⟩, 28) := ⟨⟨by decide +kernel, by decide +kernel⟩, List.mem_of_getElem? (i := 780) (by decide +kernel), List.mem_of_getElem? (i := 976) (by decide +kernel), List.mem_of_getElem? (i := 977) (by decide +kernel)⟩
theorem lw_p51 : lw_okq (⟨"OfficeholdersRollModel", "areOfUnlikeFamilies", "(II)Z"⟩, 28) := ⟨⟨by decide +kernel, by decide +kernel⟩, List.mem_of_getElem? (i := 780) (by decide +kernel), List.mem_of_getElem? (i := 980) (by decide +kernel), List.mem_of_getElem? (i := 981) (by decide +kernel)⟩
theorem lw_p52 : lw_okq (⟨"OfficeholdersRollModel", "areBarred", "(II)Z"⟩, 28) := ⟨⟨by decide +kernel, by decide +kernel⟩, List.mem_of_getElem? (i := 780) (by decide +kernel), List.mem_of_getElem? (i := 984) (by decide +kernel), List.mem_of_getElem? (i := 985) (by decide +kernel)⟩
theorem lw_p53 : lw_okq (⟨"OfficeholdersRollModel", "sizeOf", "(I)I"⟩, 28) := ⟨⟨by decide +kernel, by decide +kernel⟩, List.mem_of_getElem? (i := 780) (by decide +kernel), List.mem_of_getElem? (i := 996) (by decide +kernel), List.mem_of_getElem? (i := 997) (by decide +kernel)⟩
theorem lw_p54 : lw_okq (⟨"OfficeholdersRollModel", "isPerson", "(I)Z"⟩, 28) := ⟨⟨by decide +kernel, by decide +kernel⟩, List.mem_of_getElem? (i := 780) (by decide +kernel), List.mem_of_getElem? (i := 1008) (by decide +kernel), List.mem_of_getElem? (i := 1009) (by decide +kernel)⟩
theorem lw_p55 : lw_okq (⟨"OfficeholdersRollModel", "inCareer", "(II)I"⟩, 28) := ⟨⟨by decide +kernel, by decide +kernel⟩, List.mem_of_getElem? (i := 780) (by decide +kernel), List.mem_of_getElem? (i := 1020) (by decide +kernel), List.mem_of_getElem? (i := 1021) (by decide +kernel)⟩
theorem lw_p56 : lw_okq (⟨"OfficeholdersRollModel", "isInCareer", "(II)Z"⟩, 28) := ⟨⟨by decide +kernel, by decide +kernel⟩, List.mem_of_getElem? (i := 780) (by decide +kernel), List.mem_of_getElem? (i := 1024) (by decide +kernel), List.mem_of_getElem? (i := 1025) (by decide +kernel)⟩
theorem lw_p57 : lw_okq (⟨"OfficeholdersRollModel", "isEarlier", "(II)Z"⟩, 28) := ⟨⟨by decide +kernel, by decide +kernel⟩, List.mem_of_getElem? (i := 780) (by decide +kernel), List.mem_of_getElem? (i := 1028) (by decide +kernel), List.mem_of_getElem? (i := 1029) (by decide +kernel)⟩
theorem lw_p58 : lw_okq (⟨"OfficeholdersRollModel", "tellsBest", "(I)I"⟩, 28) := ⟨⟨by decide +kernel, by decide +kernel⟩, List.mem_of_getElem? (i := 780) (by decide +kernel), List.mem_of_getElem? (i := 1048) (by decide +kernel), List.mem_of_getElem? (i := 1049) (by decide +kernel)⟩
theorem lw_p59 : lw_okq (⟨"OfficeholdersRollModel", "worth", "(I)I"⟩, 28) := ⟨⟨by decide +kernel, by decide +kernel⟩, List.mem_of_getElem? (i := 780) (by decide +kernel), List.mem_of_getElem? (i := 1053) (by decide +kernel), List.mem_of_getElem? (i := 1054) (by decide +kernel)⟩
def lw_privs_4 : List (MethodName × Nat) := [(⟨"OfficeholdersRollModel", "weightOf", "(II)I"⟩, 28), (⟨"OfficeholdersRollModel", "reason", "(II)I"⟩, 28), (⟨"OfficeholdersRollModel", "hasReason", "(III)Z"⟩, 28), (⟨"OfficeholdersRollModel", "areOfUnlikeFamilies", "(II)Z"⟩, 28), (⟨"OfficeholdersRollModel", "areBarred", "(II)Z"⟩, 28), (⟨"OfficeholdersRollModel", "sizeOf", "(I)I"⟩, 28), (⟨"OfficeholdersRollModel", "isPerson", "(I)Z"⟩, 28), (⟨"OfficeholdersRollModel", "inCareer", "(II)I"⟩, 28), (⟨"OfficeholdersRollModel", "isInCareer", "(II)Z"⟩, 28), (⟨"OfficeholdersRollModel", "isEarlier", "(II)Z"⟩, 28), (⟨"OfficeholdersRollModel", "tellsBest", "(I)I"⟩, 28), (⟨"OfficeholdersRollModel", "worth", "(I)I"⟩, 28)]
theorem lw_r4 : ∀ q ∈ lw_privs_4, lw_okq q := List.forall_mem_cons.mpr ⟨lw_p48, List.forall_mem_cons.mpr ⟨lw_p49, List.forall_mem_cons.mpr ⟨lw_p50, List.forall_mem_cons.mpr ⟨lw_p51, List.forall_mem_cons.mpr ⟨lw_p52, List.forall_mem_cons.mpr ⟨lw_p53, List.forall_mem_cons.mpr ⟨lw_p54, List.forall_mem_cons.mpr ⟨lw_p55, List.forall_mem_cons.mpr ⟨lw_p56, List.forall_mem_cons.mpr ⟨lw_p57, List.forall_mem_cons.mpr ⟨lw_p58, List.forall_mem_cons.mpr ⟨lw_p59, fun _ h => absurd h List.not_mem_nil⟩⟩⟩⟩⟩⟩⟩⟩⟩⟩⟩⟩
def lw_privs : List (MethodName × Nat) := lw_privs_1 ++ (lw_privs_2 ++ (lw_privs_3 ++ (lw_privs_4)))
def lw_tbl : List Cond := k2_sels lw_privs ++ tables_1
theorem lw_privs_ok : ∀ q ∈ lw_privs, lw_okq q := by
  show ∀ q ∈ lw_privs_1 ++ (lw_privs_2 ++ (lw_privs_3 ++ (lw_privs_4))), lw_okq q
  exact List.forall_mem_append.mpr ⟨lw_r1, List.forall_mem_append.mpr ⟨lw_r2, List.forall_mem_append.mpr ⟨lw_r3, lw_r4⟩⟩⟩
end
section
/-! ===== BEGIN words of one list among another's, by their places ===== -/
theorem goodIn_r {big : List Cond} (ws : List Cond) (ps : List Nat) (hp : ws = ps.filterMap (fun i => big[i]?)) (h : ws.all goodWord = true) : GoodIn big ws := by
  intro w hw
  have h1 := List.all_eq_true.mp h w hw
  rw [hp] at hw
  obtain ⟨i, -, hi⟩ := List.mem_filterMap.mp hw
  have hm : w ∈ big := by first | exact List.mem_of_getElem? hi | exact List.getElem?_mem hi
  exact ⟨hm, good_of_word h1⟩
theorem goodIn_app {big a b : List Cond} (ha : GoodIn big a) (hb : GoodIn big b) : GoodIn big (a ++ b) := fun w h => (List.mem_append.mp h).elim (ha w) (hb w)
theorem goodIn_ca {big a b : List Cond} {c : Cond} (ha : GoodIn big (c :: a)) (hb : GoodIn big b) : GoodIn big (c :: (a ++ b)) := fun w h => (List.mem_cons.mp h).elim (fun e => ha w (List.mem_cons.mpr (Or.inl e))) (fun h => (List.mem_append.mp h).elim (fun h => ha w (List.mem_cons.mpr (Or.inr h))) (hb w))
theorem goodIn_sub {big ws : List Cond} (hm : ∀ w ∈ ws, w ∈ big) (h : ws.all goodWord = true) : GoodIn big ws := fun w hw => ⟨hm w hw, good_of_word (List.all_eq_true.mp h w hw)⟩
/-! ===== END ===== -/

/-! ===== BEGIN exceptions that leave a method, and their catching by the caller (launches without stack traces) ===== -/
section VXA
/-! The laws vx_back, vx_callV, vx_callS, vx_callSW, vx_throw0, vx_throwS follow proofs of the library, with one case more: JvmDerived/Free/Laws.lean (Back.of_free), Shelf42/LK1.lean (callV, callS), Shelf/KitTraced.lean (throwNew0V, throwNewS). -/
/-- where a method has thrown q: the class by its name, the cell, what was written, the world -/
def vx_T (XC : String → State → State → Prop) (st : State) (q : Addr) (t : State) (mc ms : Nat) (free : Addr → Prop) : Prop :=
  ∃ (E : String) (ce : Cell) (L : List Loc), XC E st t ∧ t.heap[q]? = some ce ∧ ce.vm = .none ∧ st.vm.findClass E = some ce.cls ∧ st.WarmedH t.vm ∧ st.sameButNew ({ t with vm := st.vm } : State) L mc ms ∧ ∀ z ∈ L, free z.base
def vx_Q (Qc : Array Value → State → Outcome → State → Prop) (XC : String → State → State → Prop) (mc ms : Nat) (free : Addr → Prop) : Array Value → State → Outcome → State → Prop := fun a st o t =>
  (Qc a st o t ∧ ∃ L, FrameEnd st o t L mc ms ∧ ∀ q ∈ L, free q.base) ∨ ∃ q, o = .threw q ∧ vx_T XC st q t mc ms free
/-- a callee that returns or throws -/
def vx_Met (l : Launch) (y : MethodName) (ws : List Cond) (rm : Room) (Pc : Array Value → State → Prop) (Qc : Array Value → State → Outcome → State → Prop) (XC : String → State → State → Prop) (mc ms : Nat) (free : Addr → Prop) : Prop :=
  MetFree l y (headSpec ws rm) Pc (fun _ _ _ _ _ => True) (vx_Q Qc XC mc ms free)
def vx_Post (XC : String → State → State → Prop) (mc ms : Nat) (free : Addr → Prop) : Pt → Array Value → Addr → Pt → Prop := fun A a q B =>
  ∃ (g : JFrame) (mk : MethodId) (t : State) (L : List Loc) (E : String) (ce : Cell), B.U.heap = t.heap ∧ B.U.vm = t.vm ∧ XC E (A.U.calling g mk a) t ∧ t.heap[q]? = some ce ∧ ce.vm = .none ∧ A.U.vm.findClass E = some ce.cls ∧ B.locs = A.locs ++ L ∧ (∀ z ∈ L, free z.base) ∧ B.cells = A.cells + mc ∧ B.slots = A.slots + ms
def vx_Back (l : Launch) (R : Room) (p : Program) (e : Env) (below : List Frame) (s : State) (sargs : Array Value) (y : MethodName) (len W9 : Nat)
    (Pre : Pt → Array Value → Prop) (Post : Pt → Array Value → Option Value → Pt → Prop) (PostX : Pt → Array Value → Addr → Pt → Prop) : Prop :=
  ∀ (m : MethodId) (meth : Method) (c : Code) (A : Pt) (g : JFrame) (ig : Instr) (mk : MethodId) (a : Array Value),
    Stand p l e R s m sargs below meth c A.U A.locs A.cells A.slots → g.method = m → g.locals.size = c.maxLocals → decode c.code g.pc = .ok (ig, len) →
    2 * g.monitorRoom + (g.stack.map fun v => v.category).sum ≤ W9 → A.U.methodNamed? y = some mk → Pre A a →
    (∃ (v : Option Value) (B : Pt), Stand p l e R s m sargs below meth c B.U B.locs B.cells B.slots ∧ Post A a v B ∧
      Steps p.tables e below (doInvoke e (A.U.setTop g) [] mk a).1 (B.U.setTop { g with pc := g.pc + len, stack := v.toList ++ g.stack })) ∨
    (∃ (q : Addr) (B : Pt), Stand p l e R s m sargs below meth c B.U B.locs B.cells B.slots ∧ PostX A a q B ∧
      Steps p.tables e below (doInvoke e (A.U.setTop g) [] mk a).1 ((B.U.setTop g).pushFrame (.throwing q)))
section Payer
variable {l : Launch} {R : Room} {p : Program} {e : Env} {below : List Frame} {s : State} {sargs : Array Value} {y : MethodName} {len W9 : Nat}
theorem vx_back {ws : List Cond} {rm : Room} {Pc : Array Value → State → Prop} {Qc : Array Value → State → Outcome → State → Prop} {XC : String → State → State → Prop} {mc ms : Nat} {free : Addr → Prop} {bytes : ByteArray} {maxL : Nat} {ret : Option FieldType}
    (hM : vx_Met l y ws rm Pc Qc XC mc ms free) (hblind : FrameBlind Pc) (hrc : rm.cells = mc) (hrs : rm.slots = ms)
    (hframes : rm.frames + 1 ≤ R.frames) (hlocals : W9 + (maxL + 11) + rm.locals ≤ R.locals)
    (hws : ∀ w ∈ ws, ∀ a' U, s.WarmedH U.vm → w.before a' U = true) (hcode : Cond.code y bytes maxL ret ∈ ws) (hinit : ∀ a' U, s.WarmedH U.vm → (Cond.initialized y.cls).before a' U = true) :
    vx_Back l R p e below s sargs y len W9 (PreOf R mc ms Pc) (PostOf Qc mc ms free) (vx_Post XC mc ms free) := by
  intro m meth c A g ig mk a X hg hsize hdg hW hn hp
  have h1 : (headSpec ws rm).pre.before a A.U = true := atoms_intro fun w hw => hws w hw _ _ X.warmed
  have h2 : (Cond.code y bytes maxL ret).before a A.U = true := hws _ hcode _ _ X.warmed
  have h3 : (Cond.initialized y.cls).before a A.U = true := hinit _ _ X.warmed
  have h4 : A.cells + (headSpec ws rm).room.cells ≤ R.cells := by rw [show (headSpec ws rm).room.cells = mc from hrc]; exact hp.1
  have h5 : A.slots + (headSpec ws rm).room.slots ≤ R.slots := by rw [show (headSpec ws rm).room.slots = ms from hrs]; exact hp.2.1
  have hPc : Pc a (A.U.calling g mk a) := hblind _ _ _ _ hp.2.2
  obtain ⟨U, Ls, c0, s0⟩ := A
  dsimp only [Pt.U, Pt.locs, Pt.cells, Pt.slots] at h1 h2 h3 h4 h5 X hn hPc ⊢
  obtain ⟨methY, cY, hmY, hcY, -, hlY, -, -, -, -⟩ := Cond.code_spec hn h2
  obtain ⟨kY, hkY, -⟩ := className_of_methodNamed hn
  have hinitY : kY.init = .initialized := Cond.initialized_spec (findClass_of_methodNamed hn) hkY h3
  have h : At U g.method c below := by rw [hg]; exact X.here
  have hlocals9 : W9 + (maxL + 11) + (headSpec ws rm).room.locals ≤ R.locals := hlocals
  have happ : (headSpec ws rm).appliesLoose y e.platform (U.calling g mk a) = true :=
    Spec.appliesLoose_calling (g := g) h hdg hn hkY hinitY
      (X.room_calling (g := g) (R' := (headSpec ws rm).room) hsize hmY hcY hframes (by rw [hlY]; omega) h4 h5) h1
  obtain ⟨mid, hmid⟩ := h.above
  have hfr : (U.setTop g).frames = (.java g :: mid) ++ below := by rw [State.frames_setTop' g h.top, hmid]; rfl
  obtain ⟨o, s₂, hsteps, -, hend, hq⟩ := Steps.callFree hM p X.admits X.cas X.clock (acts := []) hfr happ hPc trivial
  have hq' : vx_Q Qc XC mc ms free a (U.calling g mk a) o s₂ := hq
  rw [State.frames_setTop' g h.top] at hend
  obtain ⟨g₀, hg0⟩ := Option.isSome_iff_exists.mp h.top
  obtain ⟨r, hr⟩ := State.topJava?_eq_some.mp hg0
  have hr' : (({ U with heap := s₂.heap, slotsUsed := s₂.slotsUsed } : State).setVm s₂.vm).frames = .java g₀ :: r := hr
  rcases hq' with ⟨hqc, L, hfe, hL⟩ | ⟨q, rfl, E, ce, L, hx, hce, hcv, hcl, hW₂, hsm, hL⟩
  · obtain ⟨⟨v, rfl⟩, hW₂, e2, q2, q3, q4, q5, q6⟩ := id hfe
    have e3 : s₂ = ({ (U.calling g mk a).setFrames s₂.frames with heap := s₂.heap, slotsUsed := s₂.slotsUsed } : State).setVm s₂.vm := by
      have : s₂ = ({ s₂ with vm := (U.calling g mk a).vm } : State).setVm s₂.vm := rfl
      rw [e2] at this
      exact this
    obtain ⟨c₂, i₂, len₂, hc₂, hd₂, hf₂⟩ := hend
    have hW' : U.WarmedH s₂.vm := hW₂
    have hcc : c₂ = c := by
      have h1 : s₂.code? g.method = U.code? g.method := by
        rw [State.code?_eq, State.code?_eq, hW'.alike.method?]
      exact Option.some.inj (hc₂.symm.trans (h1.trans h.code))
    subst hcc
    have hlen : len₂ = len := by rw [hdg] at hd₂; cases hd₂; rfl
    subst hlen
    have hs₂ : s₂ = (({ U with heap := s₂.heap, slotsUsed := s₂.slotsUsed } : State).setVm s₂.vm).setTop { g with pc := g.pc + len₂, stack := v.toList ++ g.stack } := by
      refine e3.trans ?_
      rw [hf₂, State.calling_eq h.top, State.setFrames_setFrames, State.setTop_of_frames _ hr', hr]
      rfl
    have hsame : U.sameButNew ({ U with heap := s₂.heap, slotsUsed := s₂.slotsUsed } : State) L mc ms := by
      refine ⟨?_, q2, q3, q4, q5, q6⟩
      obtain ⟨t, ht, -⟩ := State.frames_cons hr
      show ({ U with heap := s₂.heap, slotsUsed := s₂.slotsUsed } : State) = { U.setFrames U.frames with heap := s₂.heap, slotsUsed := s₂.slotsUsed }
      rw [State.setFrames_self ht]
    subst hg
    refine Or.inl ⟨v, ⟨(({ U with heap := s₂.heap, slotsUsed := s₂.slotsUsed } : State).setVm s₂.vm), Ls ++ L, c0 + mc, s0 + ms⟩,
      ⟨X.admits, X.cas, X.clock, X.frames, X.room, X.hears, X.method, X.code, (X.here.setHeapUsed s₂.heap s₂.slotsUsed).setVm hW'.alike, X.tail, State.WarmedH.trans X.warmed hW', X.limits, X.bytes, X.same.trans (hsame.setVm s.vm)⟩,
      ⟨g, mk, s₂, L, rfl, rfl, hqc, rfl, hL, rfl, rfl⟩, ?_⟩
    show Steps p.tables e below _ ((({ U with heap := s₂.heap, slotsUsed := s₂.slotsUsed } : State).setVm s₂.vm).setTop { g with pc := g.pc + len₂, stack := v.toList ++ g.stack })
    rw [← hs₂]
    exact hsteps
  · obtain ⟨e2, q2, q3, q4, q5, q6⟩ := id hsm
    have e3 : s₂ = ({ (U.calling g mk a).setFrames s₂.frames with heap := s₂.heap, slotsUsed := s₂.slotsUsed } : State).setVm s₂.vm := by
      have : s₂ = ({ s₂ with vm := (U.calling g mk a).vm } : State).setVm s₂.vm := rfl
      rw [e2] at this
      exact this
    have hf₂ : s₂.frames = .throwing q :: .java g :: U.frames.tail := hend
    have hW' : U.WarmedH s₂.vm := hW₂
    have hs₂ : s₂ = ((({ U with heap := s₂.heap, slotsUsed := s₂.slotsUsed } : State).setVm s₂.vm).setTop g).pushFrame (.throwing q) := by
      refine e3.trans ?_
      rw [hf₂, State.calling_eq h.top, State.setFrames_setFrames, State.pushFrame, State.frames_setTop _ hr', State.setTop_of_frames _ hr', State.setFrames_setFrames, hr]
      rfl
    have hsame : U.sameButNew ({ U with heap := s₂.heap, slotsUsed := s₂.slotsUsed } : State) L mc ms := by
      refine ⟨?_, q2, q3, q4, q5, q6⟩
      obtain ⟨t, ht, -⟩ := State.frames_cons hr
      show ({ U with heap := s₂.heap, slotsUsed := s₂.slotsUsed } : State) = { U.setFrames U.frames with heap := s₂.heap, slotsUsed := s₂.slotsUsed }
      rw [State.setFrames_self ht]
    subst hg
    refine Or.inr ⟨q, ⟨(({ U with heap := s₂.heap, slotsUsed := s₂.slotsUsed } : State).setVm s₂.vm), Ls ++ L, c0 + mc, s0 + ms⟩,
      ⟨X.admits, X.cas, X.clock, X.frames, X.room, X.hears, X.method, X.code, (X.here.setHeapUsed s₂.heap s₂.slotsUsed).setVm hW'.alike, X.tail, State.WarmedH.trans X.warmed hW', X.limits, X.bytes, X.same.trans (hsame.setVm s.vm)⟩,
      ⟨g, mk, s₂, L, E, ce, rfl, rfl, hx, hce, hcv, hcl, rfl, hL, rfl, rfl⟩, ?_⟩
    show Steps p.tables e below _ (((({ U with heap := s₂.heap, slotsUsed := s₂.slotsUsed } : State).setVm s₂.vm).setTop g).pushFrame (.throwing q))
    rw [← hs₂]
    exact hsteps
end Payer
section Calls
variable {p : Program} {l : Launch} {e : Env} {R : Room} {s : State} {m : MethodId} {args : Array Value} {below : List Frame} {meth : Method} {c : Code} {T : State} {locs : List Loc} {cells slots : Nat}
theorem vx_callV (X : Stand p l e R s m args below meth c T locs cells slots) (hexec : p.tables.exec = Jvm.exec) {own C : String} {index : Nat} {y : MethodName} {bytes : ByteArray} {maxL : Nat} {ret : Option FieldType}
    (hown : s.vm.findClass own = some m.cls) (hlink : (Cond.methodLink own index y).before args s = true) (hinst : (Cond.instanceMethod y).before args s = true) (hsel : (Cond.selects C y y).before args s = true)
    (hcode : (Cond.code y bytes maxL ret).before args s = true) (hy : y.cls ≠ "java/lang/invoke/MethodHandle" ∧ y.cls ≠ "java/lang/invoke/VarHandle")
    {W9 : Nat} {Pre : Pt → Array Value → Prop} {Post : Pt → Array Value → Option Value → Pt → Prop} {PostX : Pt → Array Value → Addr → Pt → Prop} (hK : vx_Back l R p e below s args y 3 W9 Pre Post PostX)
    {b : Addr} {cellB : Cell} (hcell : T.heap[b]? = some cellB) (hobj : cellB.vm.isStatics = false) (hcls : s.vm.findClass C = some cellB.cls)
    {g : JFrame} (hg : g.method = m) (hsize : g.locals.size = c.maxLocals) {argsL rest : List Value} (hlen : ∀ sig, parseMethodDescriptor y.desc = some sig → argsL.length = sig.parameters.length)
    (hstack : g.stack = argsL.reverse ++ .ref b :: rest) (hW : 2 * g.monitorRoom + (rest.map fun v => v.category).sum ≤ W9) (hdg : decode c.code g.pc = .ok (.invokevirtual index, 3))
    (hpre : ∀ vm₁, s.WarmedH vm₁ → Pre ⟨T.setVm vm₁, locs, cells, slots⟩ (Value.ref b :: argsL).toArray) :
    (∃ (v : Option Value) (vm₁ : Vm) (B : Pt), s.WarmedH vm₁ ∧ Stand p l e R s m args below meth c B.U B.locs B.cells B.slots ∧ Post ⟨T.setVm vm₁, locs, cells, slots⟩ (Value.ref b :: argsL).toArray v B ∧
      ∀ target, Steps p.tables e below (B.U.setTop { g with pc := g.pc + 3, stack := v.toList ++ rest }) target → Steps p.tables e below (T.setTop g) target) ∨
    (∃ (q : Addr) (vm₁ : Vm) (B : Pt), s.WarmedH vm₁ ∧ Stand p l e R s m args below meth c B.U B.locs B.cells B.slots ∧ PostX ⟨T.setVm vm₁, locs, cells, slots⟩ (Value.ref b :: argsL).toArray q B ∧
      Steps p.tables e below (T.setTop g) ((B.U.setTop { g with stack := rest }).pushFrame (.throwing q))) := by
  obtain ⟨mk, methM, hnamed, hmethM, hstM, habM⟩ := Cond.instanceMethod_spec hinst
  obtain ⟨methM', cM, hmethM', -, -, -, -, -, -, hsigM⟩ := Cond.code_spec hnamed hcode
  cases hmethM.symm.trans hmethM'
  obtain ⟨c2, r2, m2, q1, q2, q3, q4, kP, hkP, hkPi⟩ := Cond.selects_spec hsel
  cases hcls.symm.trans q1
  cases (State.methodFound?_of_named hnamed hy).symm.trans q2
  cases hnamed.symm.trans q3
  have hselP : selectMethod e.platform s.vm cellB.cls mk = .method mk := by rw [Launch.admits_selectMethod X.admits]; exact q4
  obtain ⟨vm₁, X₁, hstep₁⟩ := X.invokevirtual hexec hown hlink hnamed hmethM hstM hkP hkPi hy (a := b) (cell := cellB) hcell
    (fun z h => by rw [h] at hobj; cases hobj) hselP hmethM habM hkP hkPi (g := g) hg (argsL := argsL) (rest := rest) (hlen _ hsigM) hstack hdg
  rcases hK m meth c ⟨T.setVm vm₁, locs, cells, slots⟩ { g with stack := rest } (.invokevirtual index) mk (Value.ref b :: argsL).toArray X₁ hg hsize hdg hW (X₁.named hnamed) (hpre vm₁ X₁.warmed) with ⟨v, B, X', hpost, hsteps⟩ | ⟨q, B, X', hpost, hsteps⟩
  · exact Or.inl ⟨v, vm₁, B, X₁.warmed, X', hpost, fun target h => hstep₁ _ fun acts => by rw [doInvoke_state]; exact hsteps.trans h⟩
  · exact Or.inr ⟨q, vm₁, B, X₁.warmed, X', hpost, hstep₁ _ fun acts => by rw [doInvoke_state]; exact hsteps⟩
theorem vx_callS (X : Stand p l e R s m args below meth c T locs cells slots) (hexec : p.tables.exec = Jvm.exec) {own : String} {index : Nat} {y : MethodName} {bytes : ByteArray} {maxL : Nat} {ret : Option FieldType}
    (hown : s.vm.findClass own = some m.cls) (hlink : (Cond.methodLink own index y).before args s = true) (hstat : (Cond.static y).before args s = true) (hinit : (Cond.initialized y.cls).before args s = true)
    (hcode : (Cond.code y bytes maxL ret).before args s = true) (hy : y.cls ≠ "java/lang/invoke/MethodHandle" ∧ y.cls ≠ "java/lang/invoke/VarHandle")
    {W9 : Nat} {Pre : Pt → Array Value → Prop} {Post : Pt → Array Value → Option Value → Pt → Prop} {PostX : Pt → Array Value → Addr → Pt → Prop} (hK : vx_Back l R p e below s args y 3 W9 Pre Post PostX)
    {g : JFrame} (hg : g.method = m) (hsize : g.locals.size = c.maxLocals) {argsL rest : List Value} (hlen : ∀ sig, parseMethodDescriptor y.desc = some sig → argsL.length = sig.parameters.length)
    (hstack : g.stack = argsL.reverse ++ rest) (hW : 2 * g.monitorRoom + (rest.map fun v => v.category).sum ≤ W9) (hdg : decode c.code g.pc = .ok (.invokestatic index, 3))
    (hpre : ∀ vm₁, s.WarmedH vm₁ → Pre ⟨T.setVm vm₁, locs, cells, slots⟩ argsL.toArray) :
    (∃ (v : Option Value) (vm₁ : Vm) (B : Pt), s.WarmedH vm₁ ∧ Stand p l e R s m args below meth c B.U B.locs B.cells B.slots ∧ Post ⟨T.setVm vm₁, locs, cells, slots⟩ argsL.toArray v B ∧
      ∀ target, Steps p.tables e below (B.U.setTop { g with pc := g.pc + 3, stack := v.toList ++ rest }) target → Steps p.tables e below (T.setTop g) target) ∨
    (∃ (q : Addr) (vm₁ : Vm) (B : Pt), s.WarmedH vm₁ ∧ Stand p l e R s m args below meth c B.U B.locs B.cells B.slots ∧ PostX ⟨T.setVm vm₁, locs, cells, slots⟩ argsL.toArray q B ∧
      Steps p.tables e below (T.setTop g) ((B.U.setTop { g with stack := rest }).pushFrame (.throwing q))) := by
  obtain ⟨mk, hnamed⟩ := Cond.code_named hcode
  obtain ⟨methM, cM, hmethM, -, -, -, -, -, -, hsigM⟩ := Cond.code_spec hnamed hcode
  have hstatic : methM.isStatic = true := Cond.static_spec hnamed hmethM hstat
  obtain ⟨kP, hkP, -⟩ := className_of_methodNamed hnamed
  have hinitP : kP.init = .initialized := Cond.initialized_spec (findClass_of_methodNamed hnamed) hkP hinit
  obtain ⟨vm₁, X₁, hstep₁⟩ := X.invokestatic hexec hown hlink hnamed hmethM hstatic hkP hinitP hy (g := g) hg (argsL := argsL) (rest := rest) (hlen _ hsigM) hstack hdg
  rcases hK m meth c ⟨T.setVm vm₁, locs, cells, slots⟩ { g with stack := rest } (.invokestatic index) mk argsL.toArray X₁ hg hsize hdg hW (X₁.named hnamed) (hpre vm₁ X₁.warmed) with ⟨v, B, X', hpost, hsteps⟩ | ⟨q, B, X', hpost, hsteps⟩
  · exact Or.inl ⟨v, vm₁, B, X₁.warmed, X', hpost, fun target h => hstep₁ _ fun acts => by rw [doInvoke_state]; exact hsteps.trans h⟩
  · exact Or.inr ⟨q, vm₁, B, X₁.warmed, X', hpost, hstep₁ _ fun acts => by rw [doInvoke_state]; exact hsteps⟩
end Calls
theorem vx_cls {s : State} {T : State} {vm₁ : Vm} {E : String} {k : ClassId} (hW : s.WarmedH vm₁) (h : (T.setVm vm₁).vm.findClass E = some k) : s.vm.findClass E = some k := by
  have h1 : vm₁.findClass E = some k := h
  rw [hW.alike.findClass] at h1
  exact h1
/-- the method's frame g, with q thrown over it -/
def vx_W (p : Program) (l : Launch) (e : Env) (R : Room) (s : State) (m : MethodId) (args : Array Value) (below : List Frame) (meth : Method) (c : Code) (H : Heap) (locs : List Loc) (cells slots : Nat) (Q : State → Prop) (g : JFrame) (q : Addr) : Prop :=
  ∀ T : State, T.heap = H → Stand p l e R s m args below meth c T locs cells slots → ∃ t, Steps p.tables e below ((T.setTop g).pushFrame (.throwing q)) t ∧ Q t
def vx_Run (p : Program) (l : Launch) (e : Env) (R : Room) (s : State) (m : MethodId) (args : Array Value) (below : List Frame) (meth : Method) (c : Code) (H : Heap) (locs : List Loc) (cells slots mc ms : Nat) (g : JFrame) (rest : List Value) (Qa : State → Outcome → State → Prop) (XC : String → State → State → Prop) (free : Addr → Prop) : Prop :=
  ∀ T : State, T.heap = H → Stand p l e R s m args below meth c T locs cells slots →
    (∃ (v : Option Value) (st₀ t T' : State) (L : List Loc), st₀.heap = H ∧ Stand p l e R s m args below meth c T' (locs ++ L) (cells + mc) (slots + ms) ∧ (∀ q ∈ L, free q.base) ∧ T'.heap = t.heap ∧ T'.vm = t.vm ∧ Qa st₀ (.returned v) t ∧
      Goes p e below T g T' { g with pc := g.pc + 3, stack := v.toList ++ rest }) ∨
    (∃ (q : Addr) (st₀ t T' : State) (L : List Loc) (E : String) (ce : Cell), st₀.heap = H ∧ Stand p l e R s m args below meth c T' (locs ++ L) (cells + mc) (slots + ms) ∧ (∀ z ∈ L, free z.base) ∧ T'.heap = t.heap ∧ T'.vm = t.vm ∧ XC E st₀ t ∧ t.heap[q]? = some ce ∧ ce.vm = .none ∧ s.vm.findClass E = some ce.cls ∧
      Steps p.tables e below (T.setTop g) ((T'.setTop { g with stack := rest }).pushFrame (.throwing q)))
def vx_X {S : Type} (px : S → Prop) (B : String → S → State → Prop) (A : Nat → Prop) : String → State → State → Prop := fun E st t => ∃ u : S, px u ∧ B E u t ∧ va_F A st t
section Runs
variable {p : Program} {l : Launch} {e : Env} {R : Room} {s : State} {m : MethodId} {args : Array Value} {below : List Frame} {meth : Method} {c : Code} {H : Heap} {locs : List Loc} {cells slots : Nat}
variable {y : MethodName} {bytes cc : ByteArray} {maxL nL mc ms n index : Nat} {ret : Option FieldType} {ws : List Cond} {rm : Room} {Pc : Array Value → State → Prop} {Qc : Array Value → State → Outcome → State → Prop} {XC : String → State → State → Prop} {free : Addr → Prop} {Ts : List Cond} {own C : String} {b : Addr} {As rest : List Value} {g : JFrame}
theorem vx_callBack (cb : CallB R s args own index y bytes maxL ret ws rm mc ms n) (hM : vx_Met l y ws rm Pc Qc XC mc ms free) (hbl : FrameBlind Pc) : vx_Back l R p e below s args y 3 8 (PreOf R mc ms Pc) (PostOf Qc mc ms free) (vx_Post XC mc ms free) := by
  obtain ⟨hrc, hrs, hfr, hlo, hws, hcw, -, hini, -⟩ := cb
  exact vx_back (bytes := bytes) (maxL := maxL) (ret := ret) hM hbl hrc hrs hfr hlo hws hcw (fun a' U hW => word_at hW (Or.inl (by first | rfl | simp [Cond.onTables, Cond.keeps, Cond.steady])) hini)
theorem vx_runV (S : CallFix p m c cc nL s args Ts own) (hM : vx_Met l y ws rm Pc Qc XC mc ms free) (cw : CallW R s args own C index y bytes maxL ret ws rm mc ms n) (hp : PreV s H C b Pc As)
    (hg : g.method = m) (hn : As.length = n) (hsize : g.locals.size = nL) (hstack : g.stack = As.reverse ++ .ref b :: rest) (hW : 2 * g.monitorRoom + (rest.map fun v => v.category).sum ≤ 8) (hdg : decode cc g.pc = .ok (.invokevirtual index, 3)) (hf : cells + mc ≤ R.cells ∧ slots + ms ≤ R.slots) :
    vx_Run p l e R s m args below meth c H locs cells slots mc ms g rest (Qc (Value.ref b :: As).toArray) XC free := by
  have hK : vx_Back l R p e below s args y 3 8 (PreOf R mc ms Pc) (PostOf Qc mc ms free) (vx_Post XC mc ms free) := vx_callBack cw.1 hM hp.1
  obtain ⟨⟨-, -, -, -, -, -, hcode, -, hy, hlen, hl⟩, hin, hse⟩ := cw
  obtain ⟨hx, hb, hml, ho, -⟩ := S
  obtain ⟨-, ⟨cellB, hcB, hoB, hclB⟩, hPc⟩ := hp
  intro T hT X
  rcases vx_callV X hx (C := C) (bytes := bytes) (maxL := maxL) (ret := ret) ho hl hin hse hcode hy hK (by rw [hT]; exact hcB) hoB hclB hg (hsize.trans hml.symm) (argsL := As) (rest := rest) (fun sig h => hn.trans (hlen sig h)) hstack hW (by rw [hb]; exact hdg)
    (fun vm₁ hW₁ => ⟨hf.1, hf.2, hPc (T.setVm vm₁) hT hW₁⟩) with ⟨v, vm₁, ⟨U', l2, c2, s2⟩, hW₁, X', ⟨g', mk, t, L, e1, e2, hq, h1, hL, h2, h3⟩, st⟩ | ⟨q, vm₁, ⟨U', l2, c2, s2⟩, hW₁, X', ⟨g', mk, t, L, E, ce, e1, e2, hq, hce, hcv, hcl, h1, hL, h2, h3⟩, st⟩
  · dsimp only [Pt.U, Pt.locs, Pt.cells, Pt.slots] at X' e1 e2 h1 h2 h3 st
    subst h1; subst h2; subst h3
    exact Or.inl ⟨v, (T.setVm vm₁).calling g' mk (Value.ref b :: As).toArray, t, U', L, hT, X', hL, e1, e2, hq, st⟩
  · dsimp only [Pt.U, Pt.locs, Pt.cells, Pt.slots] at X' e1 e2 h1 h2 h3 st hcl
    subst h1; subst h2; subst h3
    exact Or.inr ⟨q, (T.setVm vm₁).calling g' mk (Value.ref b :: As).toArray, t, U', L, E, ce, hT, X', hL, e1, e2, hq, hce, hcv, vx_cls hW₁ hcl, st⟩
theorem vx_runS (S : CallFix p m c cc nL s args Ts own) (hM : vx_Met l y ws rm Pc Qc XC mc ms free) (cw : CallB R s args own index y bytes maxL ret ws rm mc ms n ∧ (Cond.static y).before args s = true) (hp : PreS s H Pc As)
    (hg : g.method = m) (hn : As.length = n) (hsize : g.locals.size = nL) (hstack : g.stack = As.reverse ++ rest) (hW : 2 * g.monitorRoom + (rest.map fun v => v.category).sum ≤ 8) (hdg : decode cc g.pc = .ok (.invokestatic index, 3)) (hf : cells + mc ≤ R.cells ∧ slots + ms ≤ R.slots) :
    vx_Run p l e R s m args below meth c H locs cells slots mc ms g rest (Qc As.toArray) XC free := by
  have hK : vx_Back l R p e below s args y 3 8 (PreOf R mc ms Pc) (PostOf Qc mc ms free) (vx_Post XC mc ms free) := vx_callBack cw.1 hM hp.1
  obtain ⟨⟨-, -, -, -, -, -, hcode, hini, hy, hlen, hl⟩, hstt⟩ := cw
  obtain ⟨hx, hb, hml, ho, -⟩ := S
  intro T hT X
  rcases vx_callS X hx (bytes := bytes) (maxL := maxL) (ret := ret) ho hl hstt hini hcode hy hK hg (hsize.trans hml.symm) (argsL := As) (rest := rest) (fun sig h => hn.trans (hlen sig h)) hstack hW (by rw [hb]; exact hdg)
    (fun vm₁ hW₁ => ⟨hf.1, hf.2, hp.2 (T.setVm vm₁) hT hW₁⟩) with ⟨v, vm₁, ⟨U', l2, c2, s2⟩, hW₁, X', ⟨g', mk, t, L, e1, e2, hq, h1, hL, h2, h3⟩, st⟩ | ⟨q, vm₁, ⟨U', l2, c2, s2⟩, hW₁, X', ⟨g', mk, t, L, E, ce, e1, e2, hq, hce, hcv, hcl, h1, hL, h2, h3⟩, st⟩
  · dsimp only [Pt.U, Pt.locs, Pt.cells, Pt.slots] at X' e1 e2 h1 h2 h3 st
    subst h1; subst h2; subst h3
    exact Or.inl ⟨v, (T.setVm vm₁).calling g' mk As.toArray, t, U', L, hT, X', hL, e1, e2, hq, st⟩
  · dsimp only [Pt.U, Pt.locs, Pt.cells, Pt.slots] at X' e1 e2 h1 h2 h3 st hcl
    subst h1; subst h2; subst h3
    exact Or.inr ⟨q, (T.setVm vm₁).calling g' mk As.toArray, t, U', L, E, ce, hT, X', hL, e1, e2, hq, hce, hcv, vx_cls hW₁ hcl, st⟩
end Runs
section Rows
variable {p : Program} {l : Launch} {e : Env} {R : Room} {s : State} {m : MethodId} {args : Array Value} {below : List Frame} {meth : Method} {c : Code} {H : Heap} {locs : List Loc} {cells slots : Nat} {Q : State → Prop}
variable {mc ms : Nat} {free : Addr → Prop} {A0 A1 : Nat → Prop} {H0 : Heap} {a : Array Value} {pc : Nat} {ls : Array Slot} {st0 rest : List Value}
theorem vx_keep {st₀ t T' : State} {L : List Loc} (h0 : st₀.heap = H) (e1 : T'.heap = t.heap) (hS : va_S A0 H0 H locs) (hA : ∀ q, q < H.size → A1 q → A0 q) (hf : ∀ q, free q → A0 q) (hL : ∀ q ∈ L, free q.base) (hF : va_F A1 st₀ t) :
    H.size ≤ T'.heap.size ∧ (∀ q : Nat, q < H.size → ¬ A1 q → T'.heap[q]? = H[q]?) ∧ va_S A0 H0 T'.heap (locs ++ L) := by
  obtain ⟨hz, hk⟩ := hF
  rw [h0] at hz hk
  exact ⟨by rw [e1]; exact hz, fun q h1 h2 => by rw [e1]; exact hk q h1 h2,
    ⟨Nat.le_trans hS.1 (by rw [e1]; exact hz), fun q h1 h2 => by rw [e1, hk q (Nat.lt_of_lt_of_le h1 hS.1) (fun z => h2 (hA q (Nat.lt_of_lt_of_le h1 hS.1) z))]; exact hS.2.1 q h1 h2, fun q hq => by
      rcases List.mem_append.mp hq with h | h
      · exact hS.2.2 q h
      · exact hf _ (hL q h)⟩⟩
theorem vx_calli {S SX : Type} {post : Int32 → S → Prop} {px : SX → Prop} {B : S → State → Prop} {BX : String → SX → State → Prop} {AX : Nat → Prop} (hr : vx_Run p l e R s m args below meth c H locs cells slots mc ms (F0 m pc ls st0) rest (va_Qi post B A1 a) (vx_X px BX AX) free) (hS : va_S A0 H0 H locs) (hA : ∀ q, q < H.size → A1 q → A0 q) (hf : ∀ q, free q → A0 q) (hAX : ∀ q, q < H.size → AX q → A0 q)
    (kx : ∀ (E : String) (ce : Cell) (q9 : Addr) (u : SX) (t : State) (H1 : Heap) (locs1 : List Loc), t.heap = H1 → s.vm.Alike t.vm → px u → BX E u t → H.size ≤ H1.size → (∀ q : Nat, q < H.size → ¬ AX q → H1[q]? = H[q]?) → va_S A0 H0 H1 locs1 → H1[q9]? = some ce → ce.vm = .none → s.vm.findClass E = some ce.cls → vx_W p l e R s m args below meth c H1 locs1 (cells + mc) (slots + ms) Q (F0 m pc ls rest) q9)
    (kk : ∀ (r : Int32) (u : S) (t : State) (H1 : Heap) (locs1 : List Loc), t.heap = H1 → s.vm.Alike t.vm → post r u → B u t → H.size ≤ H1.size → (∀ q : Nat, q < H.size → ¬ A1 q → H1[q]? = H[q]?) → va_S A0 H0 H1 locs1 → W p l e R s m args below meth c H1 locs1 (cells + mc) (slots + ms) Q (F0 m (pc + 3) ls (.int r :: rest))) : W p l e R s m args below meth c H locs cells slots Q (F0 m pc ls st0) := by
  intro T hT X
  rcases hr T hT X with ⟨v, st₀, t, T', L, h0, X', hL, e1, e2, ⟨⟨r, u, hv, hp, hb⟩, hF⟩, st⟩ | ⟨q, st₀, t, T', L, E, ce, h0, X', hL, e1, e2, ⟨u, hp, hb, hF⟩, hce, hcv, hcl, st⟩
  · cases hv
    obtain ⟨k1, k2, k3⟩ := vx_keep h0 e1 hS hA hf hL hF
    obtain ⟨t2, a1, b1⟩ := kk r u t T'.heap (locs ++ L) e1.symm (by rw [← e2]; exact X'.warmed.alike) hp hb k1 k2 k3 T' rfl X'
    exact ⟨t2, st t2 a1, b1⟩
  · obtain ⟨k1, k2, k3⟩ := vx_keep h0 e1 hS hAX hf hL hF
    obtain ⟨t2, a1, b1⟩ := kx E ce q u t T'.heap (locs ++ L) e1.symm (by rw [← e2]; exact X'.warmed.alike) hp hb k1 k2 k3 (by rw [e1]; exact hce) hcv hcl T' rfl X'
    exact ⟨t2, st.trans a1, b1⟩
theorem vx_calll {S SX : Type} {post : Int64 → S → Prop} {px : SX → Prop} {B : S → State → Prop} {BX : String → SX → State → Prop} {AX : Nat → Prop} (hr : vx_Run p l e R s m args below meth c H locs cells slots mc ms (F0 m pc ls st0) rest (va_Ql post B A1 a) (vx_X px BX AX) free) (hS : va_S A0 H0 H locs) (hA : ∀ q, q < H.size → A1 q → A0 q) (hf : ∀ q, free q → A0 q) (hAX : ∀ q, q < H.size → AX q → A0 q)
    (kx : ∀ (E : String) (ce : Cell) (q9 : Addr) (u : SX) (t : State) (H1 : Heap) (locs1 : List Loc), t.heap = H1 → s.vm.Alike t.vm → px u → BX E u t → H.size ≤ H1.size → (∀ q : Nat, q < H.size → ¬ AX q → H1[q]? = H[q]?) → va_S A0 H0 H1 locs1 → H1[q9]? = some ce → ce.vm = .none → s.vm.findClass E = some ce.cls → vx_W p l e R s m args below meth c H1 locs1 (cells + mc) (slots + ms) Q (F0 m pc ls rest) q9)
    (kk : ∀ (r : Int64) (u : S) (t : State) (H1 : Heap) (locs1 : List Loc), t.heap = H1 → s.vm.Alike t.vm → post r u → B u t → H.size ≤ H1.size → (∀ q : Nat, q < H.size → ¬ A1 q → H1[q]? = H[q]?) → va_S A0 H0 H1 locs1 → W p l e R s m args below meth c H1 locs1 (cells + mc) (slots + ms) Q (F0 m (pc + 3) ls (.long r :: rest))) : W p l e R s m args below meth c H locs cells slots Q (F0 m pc ls st0) := by
  intro T hT X
  rcases hr T hT X with ⟨v, st₀, t, T', L, h0, X', hL, e1, e2, ⟨⟨r, u, hv, hp, hb⟩, hF⟩, st⟩ | ⟨q, st₀, t, T', L, E, ce, h0, X', hL, e1, e2, ⟨u, hp, hb, hF⟩, hce, hcv, hcl, st⟩
  · cases hv
    obtain ⟨k1, k2, k3⟩ := vx_keep h0 e1 hS hA hf hL hF
    obtain ⟨t2, a1, b1⟩ := kk r u t T'.heap (locs ++ L) e1.symm (by rw [← e2]; exact X'.warmed.alike) hp hb k1 k2 k3 T' rfl X'
    exact ⟨t2, st t2 a1, b1⟩
  · obtain ⟨k1, k2, k3⟩ := vx_keep h0 e1 hS hAX hf hL hF
    obtain ⟨t2, a1, b1⟩ := kx E ce q u t T'.heap (locs ++ L) e1.symm (by rw [← e2]; exact X'.warmed.alike) hp hb k1 k2 k3 (by rw [e1]; exact hce) hcv hcl T' rfl X'
    exact ⟨t2, st.trans a1, b1⟩
theorem vx_callf {S SX : Type} {post : UInt32 → S → Prop} {px : SX → Prop} {B : S → State → Prop} {BX : String → SX → State → Prop} {AX : Nat → Prop} (hr : vx_Run p l e R s m args below meth c H locs cells slots mc ms (F0 m pc ls st0) rest (va_Qf post B A1 a) (vx_X px BX AX) free) (hS : va_S A0 H0 H locs) (hA : ∀ q, q < H.size → A1 q → A0 q) (hf : ∀ q, free q → A0 q) (hAX : ∀ q, q < H.size → AX q → A0 q)
    (kx : ∀ (E : String) (ce : Cell) (q9 : Addr) (u : SX) (t : State) (H1 : Heap) (locs1 : List Loc), t.heap = H1 → s.vm.Alike t.vm → px u → BX E u t → H.size ≤ H1.size → (∀ q : Nat, q < H.size → ¬ AX q → H1[q]? = H[q]?) → va_S A0 H0 H1 locs1 → H1[q9]? = some ce → ce.vm = .none → s.vm.findClass E = some ce.cls → vx_W p l e R s m args below meth c H1 locs1 (cells + mc) (slots + ms) Q (F0 m pc ls rest) q9)
    (kk : ∀ (r : UInt32) (u : S) (t : State) (H1 : Heap) (locs1 : List Loc), t.heap = H1 → s.vm.Alike t.vm → post r u → B u t → H.size ≤ H1.size → (∀ q : Nat, q < H.size → ¬ A1 q → H1[q]? = H[q]?) → va_S A0 H0 H1 locs1 → W p l e R s m args below meth c H1 locs1 (cells + mc) (slots + ms) Q (F0 m (pc + 3) ls (.float r :: rest))) : W p l e R s m args below meth c H locs cells slots Q (F0 m pc ls st0) := by
  intro T hT X
  rcases hr T hT X with ⟨v, st₀, t, T', L, h0, X', hL, e1, e2, ⟨⟨r, u, hv, hp, hb⟩, hF⟩, st⟩ | ⟨q, st₀, t, T', L, E, ce, h0, X', hL, e1, e2, ⟨u, hp, hb, hF⟩, hce, hcv, hcl, st⟩
  · cases hv
    obtain ⟨k1, k2, k3⟩ := vx_keep h0 e1 hS hA hf hL hF
    obtain ⟨t2, a1, b1⟩ := kk r u t T'.heap (locs ++ L) e1.symm (by rw [← e2]; exact X'.warmed.alike) hp hb k1 k2 k3 T' rfl X'
    exact ⟨t2, st t2 a1, b1⟩
  · obtain ⟨k1, k2, k3⟩ := vx_keep h0 e1 hS hAX hf hL hF
    obtain ⟨t2, a1, b1⟩ := kx E ce q u t T'.heap (locs ++ L) e1.symm (by rw [← e2]; exact X'.warmed.alike) hp hb k1 k2 k3 (by rw [e1]; exact hce) hcv hcl T' rfl X'
    exact ⟨t2, st.trans a1, b1⟩
theorem vx_calld {S SX : Type} {post : UInt64 → S → Prop} {px : SX → Prop} {B : S → State → Prop} {BX : String → SX → State → Prop} {AX : Nat → Prop} (hr : vx_Run p l e R s m args below meth c H locs cells slots mc ms (F0 m pc ls st0) rest (va_Qd post B A1 a) (vx_X px BX AX) free) (hS : va_S A0 H0 H locs) (hA : ∀ q, q < H.size → A1 q → A0 q) (hf : ∀ q, free q → A0 q) (hAX : ∀ q, q < H.size → AX q → A0 q)
    (kx : ∀ (E : String) (ce : Cell) (q9 : Addr) (u : SX) (t : State) (H1 : Heap) (locs1 : List Loc), t.heap = H1 → s.vm.Alike t.vm → px u → BX E u t → H.size ≤ H1.size → (∀ q : Nat, q < H.size → ¬ AX q → H1[q]? = H[q]?) → va_S A0 H0 H1 locs1 → H1[q9]? = some ce → ce.vm = .none → s.vm.findClass E = some ce.cls → vx_W p l e R s m args below meth c H1 locs1 (cells + mc) (slots + ms) Q (F0 m pc ls rest) q9)
    (kk : ∀ (r : UInt64) (u : S) (t : State) (H1 : Heap) (locs1 : List Loc), t.heap = H1 → s.vm.Alike t.vm → post r u → B u t → H.size ≤ H1.size → (∀ q : Nat, q < H.size → ¬ A1 q → H1[q]? = H[q]?) → va_S A0 H0 H1 locs1 → W p l e R s m args below meth c H1 locs1 (cells + mc) (slots + ms) Q (F0 m (pc + 3) ls (.double r :: rest))) : W p l e R s m args below meth c H locs cells slots Q (F0 m pc ls st0) := by
  intro T hT X
  rcases hr T hT X with ⟨v, st₀, t, T', L, h0, X', hL, e1, e2, ⟨⟨r, u, hv, hp, hb⟩, hF⟩, st⟩ | ⟨q, st₀, t, T', L, E, ce, h0, X', hL, e1, e2, ⟨u, hp, hb, hF⟩, hce, hcv, hcl, st⟩
  · cases hv
    obtain ⟨k1, k2, k3⟩ := vx_keep h0 e1 hS hA hf hL hF
    obtain ⟨t2, a1, b1⟩ := kk r u t T'.heap (locs ++ L) e1.symm (by rw [← e2]; exact X'.warmed.alike) hp hb k1 k2 k3 T' rfl X'
    exact ⟨t2, st t2 a1, b1⟩
  · obtain ⟨k1, k2, k3⟩ := vx_keep h0 e1 hS hAX hf hL hF
    obtain ⟨t2, a1, b1⟩ := kx E ce q u t T'.heap (locs ++ L) e1.symm (by rw [← e2]; exact X'.warmed.alike) hp hb k1 k2 k3 (by rw [e1]; exact hce) hcv hcl T' rfl X'
    exact ⟨t2, st.trans a1, b1⟩
theorem vx_callv {S SX : Type} {post : S → Prop} {px : SX → Prop} {B : S → State → Prop} {BX : String → SX → State → Prop} {AX : Nat → Prop} (hr : vx_Run p l e R s m args below meth c H locs cells slots mc ms (F0 m pc ls st0) rest (va_Qv post B A1 a) (vx_X px BX AX) free) (hS : va_S A0 H0 H locs) (hA : ∀ q, q < H.size → A1 q → A0 q) (hf : ∀ q, free q → A0 q) (hAX : ∀ q, q < H.size → AX q → A0 q)
    (kx : ∀ (E : String) (ce : Cell) (q9 : Addr) (u : SX) (t : State) (H1 : Heap) (locs1 : List Loc), t.heap = H1 → s.vm.Alike t.vm → px u → BX E u t → H.size ≤ H1.size → (∀ q : Nat, q < H.size → ¬ AX q → H1[q]? = H[q]?) → va_S A0 H0 H1 locs1 → H1[q9]? = some ce → ce.vm = .none → s.vm.findClass E = some ce.cls → vx_W p l e R s m args below meth c H1 locs1 (cells + mc) (slots + ms) Q (F0 m pc ls rest) q9)
    (kk : ∀ (u : S) (t : State) (H1 : Heap) (locs1 : List Loc), t.heap = H1 → s.vm.Alike t.vm → post u → B u t → H.size ≤ H1.size → (∀ q : Nat, q < H.size → ¬ A1 q → H1[q]? = H[q]?) → va_S A0 H0 H1 locs1 → W p l e R s m args below meth c H1 locs1 (cells + mc) (slots + ms) Q (F0 m (pc + 3) ls (rest))) : W p l e R s m args below meth c H locs cells slots Q (F0 m pc ls st0) := by
  intro T hT X
  rcases hr T hT X with ⟨v, st₀, t, T', L, h0, X', hL, e1, e2, ⟨⟨u, hv, hp, hb⟩, hF⟩, st⟩ | ⟨q, st₀, t, T', L, E, ce, h0, X', hL, e1, e2, ⟨u, hp, hb, hF⟩, hce, hcv, hcl, st⟩
  · cases hv
    obtain ⟨k1, k2, k3⟩ := vx_keep h0 e1 hS hA hf hL hF
    obtain ⟨t2, a1, b1⟩ := kk u t T'.heap (locs ++ L) e1.symm (by rw [← e2]; exact X'.warmed.alike) hp hb k1 k2 k3 T' rfl X'
    exact ⟨t2, st t2 a1, b1⟩
  · obtain ⟨k1, k2, k3⟩ := vx_keep h0 e1 hS hAX hf hL hF
    obtain ⟨t2, a1, b1⟩ := kx E ce q u t T'.heap (locs ++ L) e1.symm (by rw [← e2]; exact X'.warmed.alike) hp hb k1 k2 k3 (by rw [e1]; exact hce) hcv hcl T' rfl X'
    exact ⟨t2, st.trans a1, b1⟩
/-- caught by the row x of this method's table; the rows ahead don't take it -/
theorem vx_catch {own name : String} {E : String} {ce : Cell} {q : Addr} (hown : s.vm.findClass own = some m.cls) (pre : List ExceptionTableEntry) (x : ExceptionTableEntry) (suf : List ExceptionTableEntry) (hsplit : c.exceptionTable.toList = pre ++ x :: suf)
    (hpass : ∀ z ∈ pre, covers z pc = false ∨ (z.catchType ≠ 0 ∧ ∃ nm : String, (Cond.classLink own z.catchType nm).before args s = true ∧ va_Nc E nm s)) (hx : covers x pc = true) (h0 : x.catchType ≠ 0)
    (hlink : (Cond.classLink own x.catchType name).before args s = true) (hcast : (Cond.castable E name).before args s = true) (hcell : H[q]? = some ce) (hv : ce.vm = .none) (hcl : s.vm.findClass E = some ce.cls)
    (kk : W p l e R s m args below meth c H locs cells slots Q (F0 m x.handlerPc ls [.ref q])) : vx_W p l e R s m args below meth c H locs cells slots Q (F0 m pc ls rest) q := by
  intro T hT X
  have hpl : e.platform.magicAccessors = ({} : Platform).magicAccessors := by rw [X.admits.platform]
  obtain ⟨c3, c4, hc3, hc4, hasg⟩ := Cond.castable_spec hcast
  cases Option.some.inj (hc3.symm.trans hcl)
  obtain ⟨c5, hc5, hcl5⟩ := Cond.classLink_spec hown hlink e.platform hpl
  cases Option.some.inj (hc4.symm.trans hc5)
  obtain ⟨vm', X', st⟩ := X.thenCaughtThrough q (g := F0 m pc ls rest) rfl (Steps.refl _) (by rw [hT]; exact hcell) (by rw [hv]; rfl) (by obtain ⟨k9, h9, -⟩ := Vm.findClass_spec hcl; exact ⟨k9, h9⟩) pre x suf hsplit
    (fun z hz => by
      rcases hpass z hz with h | ⟨hz0, nm, hl1, hn1⟩
      · exact Or.inl h
      · obtain ⟨c6, hc6, hcl6⟩ := Cond.classLink_spec hown hl1 e.platform hpl
        obtain ⟨a8, b8, h1, h2, h3⟩ := hn1
        cases Option.some.inj (h1.symm.trans hcl)
        cases Option.some.inj (h2.symm.trans hc6)
        exact Or.inr ⟨hz0, _, hcl6, h3⟩) hx (Or.inr ⟨h0, c4, hcl5, hasg⟩)
  obtain ⟨t, a1, b1⟩ := kk (T.setVm vm') hT X'
  exact ⟨t, st.trans a1, b1⟩
end Rows
section Ends
variable {p : Program} {l : Launch} {e : Env} {R : Room} {s : State} {m : MethodId} {args : Array Value} {below : List Frame} {meth : Method} {c : Code} {H : Heap} {locs : List Loc} {cells slots : Nat} {Q : State → Prop}
variable {mc ms : Nat} {free : Addr → Prop} {A0 A1 : Nat → Prop} {H0 : Heap} {a : Array Value} {ls : Array Slot} {st0 rest : List Value}
variable {Qc : Array Value → State → Outcome → State → Prop} {XC : String → State → State → Prop}
/-- what a body that may throw owes at its end -/
def vx_MQ (below : List Frame) (Qc : Array Value → State → Outcome → State → Prop) (XC : String → State → State → Prop) (a : Array Value) (s : State) (mc ms : Nat) (free : Addr → Prop) : State → Prop := fun t =>
  ∃ o, t.status = .running ∧ Ended t below o ∧ vx_Q Qc XC mc ms free a s o t
theorem vx_ret {g : JFrame} {mc ms : Nat} (k : W p l e R s m args below meth c H locs cells slots (MQ below Qc args s mc ms free) g) : W p l e R s m args below meth c H locs cells slots (vx_MQ below Qc XC args s mc ms free) g := by
  intro T hT X
  obtain ⟨t, a1, o, b1, b2, b3, b4⟩ := k T hT X
  exact ⟨t, a1, o, b1, b2, Or.inl ⟨b3, b4⟩⟩
/-- not caught here: it goes on to the caller -/
theorem vx_widen {g : JFrame} {q : Addr} {k n : Nat} (h1 : cells ≤ k) (h2 : slots ≤ n) (kk : vx_W p l e R s m args below meth c H locs k n Q g q) : vx_W p l e R s m args below meth c H locs cells slots Q g q := fun T hT X => kk T hT (stand_widen X h1 h2)
theorem vx_out {pc : Nat} {E : String} {ce : Cell} {q : Addr} {mc ms : Nat} (hout : ∀ x ∈ c.exceptionTable.toList, covers x pc = false) (hlocks : meth.locks = false) (hcell : H[q]? = some ce) (hv : ce.vm = .none) (hcl : s.vm.findClass E = some ce.cls)
    (hx : ∀ t : State, t.heap = H → s.vm.Alike t.vm → XC E s t) (hf : ∀ z ∈ locs, free z.base) (hc : cells ≤ mc) (hs : slots ≤ ms) :
    vx_W p l e R s m args below meth c H locs cells slots (vx_MQ below Qc XC args s mc ms free) (F0 m pc ls rest) q := by
  intro T hT X
  obtain ⟨st1, hrun, hend, hW, hsm⟩ := X.leaveThrown q (g := F0 m pc ls rest) rfl rfl rfl hout hlocks
  have hcell9 : (T.setFrames (.throwing q :: below)).heap[q]? = some ce := by
    show T.heap[q]? = some ce
    rw [hT]; exact hcell
  exact ⟨_, st1, .threw q, hrun, hend, Or.inr ⟨q, rfl, E, ce, locs, hx _ hT hW.alike, hcell9, hv, hcl, hW, hsm.mono hc hs, hf⟩⟩
theorem vx_frame {U : State} {k n : Nat} (h : s.sameButNew ({ U with vm := s.vm } : State) locs k n) : s.heap.size ≤ U.heap.size ∧ ∀ q : Nat, q < s.heap.size → (∀ z ∈ locs, z.base ≠ q) → U.heap[q]? = s.heap[q]? := by
  obtain ⟨-, h2, -, -, -, h6⟩ := h
  refine ⟨h2, fun q hq hz => ?_⟩
  obtain ⟨c9, e1, e2, e3, e4⟩ := h6 q _ (Array.getElem?_eq_getElem hq)
  have hs : c9.slots = (s.heap[q]).slots := Array.ext_getElem? fun i => e4 i fun hm => hz _ hm rfl
  have h9 : c9 = s.heap[q] := by
    rw [hs] at e2
    exact e2
  have e5 : U.heap[q]? = some c9 := e1
  rw [e5, h9, Array.getElem?_eq_getElem hq]
/-- the words of a throw but the four that speak of the heap -/
def vx_no (w : Cond) : Bool := decide (w ≠ .isRef (.static Bundle.tN "UNASSIGNED_STACK" Bundle.steD)) && decide (w ≠ .isRef (.static Bundle.tN "SUPPRESSED_SENTINEL" Bundle.listD)) && decide (w ≠ .laysStatic Bundle.tN "UNASSIGNED_STACK" Bundle.steD) && decide (w ≠ .laysStatic Bundle.tN "SUPPRESSED_SENTINEL" Bundle.listD)
def vx_at0 (own : String) (ic : Nat) (X : String) (names : List String) : List Cond := (Bundle.ownAtoms0 own ic X names).filter vx_no
def vx_atS (own : String) (ic : Nat) (X : String) (names : List String) : List Cond := (Bundle.ownAtoms own ic X names).filter vx_no
/-- a word that the tables alone decide, or a good one -/
def vx_ot (w : Cond) : Bool := w.onTables || goodWord w
theorem vx_ot_at {args a' : Array Value} {s U : State} {w : Cond} (hW : s.WarmedH U.vm) (hvm : s.vm = U.vm) (hg : vx_ot w = true) (h : w.before args s = true) : w.before a' U = true := by
  simp only [vx_ot, Bool.or_eq_true] at hg
  rcases hg with hg | hg
  · exact va_tabs hg hvm h
  · exact word_at hW (good_of_word hg) h
/-- a list's words: the good ones out of the method's own list, the others by premises of their own -/
theorem vx_hat {args : Array Value} {s : State} {L B : List Cond} (h1 : ∀ w ∈ L.filter goodWord, w.before args s = true) (h2 : ∀ w ∈ L.filter (fun w => !goodWord w), w ∈ B) (h3 : ∀ w ∈ B, w.before args s = true) : ∀ w ∈ L, w.before args s = true := by
  intro w hw
  by_cases g : goodWord w = true
  · exact h1 w (List.mem_filter.mpr ⟨hw, g⟩)
  · refine h3 w (h2 w (List.mem_filter.mpr ⟨hw, ?_⟩))
    show (!goodWord w) = true
    cases hgw : goodWord w
    · rfl
    · exact absurd hgw g
theorem vx_c {args : Array Value} {s : State} {w : Cond} {B : List Cond} (h : w.before args s = true) (t : ∀ w ∈ B, w.before args s = true) : ∀ w' ∈ w :: B, w'.before args s = true := fun w' h' => (List.mem_cons.mp h').elim (fun e => by rw [e]; exact h) (t w')
theorem vx_n {args : Array Value} {s : State} : ∀ w ∈ ([] : List Cond), w.before args s = true := fun _ h => nomatch h
theorem vx_own {args : Array Value} {s : State} {L : List Cond} (h1 : ∀ w ∈ L.filter vx_no, w.before args s = true)
    (hU : (Cond.isRef (.static Bundle.tN "UNASSIGNED_STACK" Bundle.steD)).before args s = true) (hN : (Cond.isRef (.static Bundle.tN "SUPPRESSED_SENTINEL" Bundle.listD)).before args s = true)
    (lU : (Cond.laysStatic Bundle.tN "UNASSIGNED_STACK" Bundle.steD).before args s = true) (lN : (Cond.laysStatic Bundle.tN "SUPPRESSED_SENTINEL" Bundle.listD).before args s = true) : ∀ w ∈ L, w.before args s = true := by
  intro w hw
  by_cases e1 : w = .isRef (.static Bundle.tN "UNASSIGNED_STACK" Bundle.steD)
  · rw [e1]; exact hU
  · by_cases e2 : w = .isRef (.static Bundle.tN "SUPPRESSED_SENTINEL" Bundle.listD)
    · rw [e2]; exact hN
    · by_cases e3 : w = .laysStatic Bundle.tN "UNASSIGNED_STACK" Bundle.steD
      · rw [e3]; exact lU
      · by_cases e4 : w = .laysStatic Bundle.tN "SUPPRESSED_SENTINEL" Bundle.listD
        · rw [e4]; exact lN
        · exact h1 w (List.mem_filter.mpr ⟨hw, by unfold vx_no; rw [decide_eq_true e1, decide_eq_true e2, decide_eq_true e3, decide_eq_true e4]; rfl⟩)
/-- where a static field lies, its class's statics cell in H -/
def vx_L (C n d : String) (A : Nat → Prop) (U : State) (H : Heap) : Prop := ∃ (c : ClassId) (k : Class) (i : Nat) (f : Field) (a : Nat) (cell : Cell), U.vm.findClass C = some c ∧ U.fieldFound? C n d = some (c, k, i, f) ∧ f.isStatic = true ∧ k.statics = some a ∧ H[a]? = some cell ∧ cell.vm.isStatics = true ∧ cell.cls = c ∧ f.slot < cell.slots.size ∧ k.staticTypes[f.slot]? = some f.type ∧ ¬ A a
theorem vx_L.moved {C n d : String} {A : Nat → Prop} {u U : State} {H : Heap} (hvm : u.vm.Alike U.vm) (h : vx_L C n d A u H) : vx_L C n d A U H := by
  obtain ⟨c, k, i, f, a, cell, h1, h2, h3, h4, h5, h6, h7, h8, h9, h10⟩ := h
  obtain ⟨k', hi', he⟩ := State.fieldFound?_setVm hvm h2
  exact ⟨c, k', i, f, a, cell, by rw [hvm.findClass]; exact h1, hi', h3, by rw [he]; exact h4, h5, h6, h7, h8, by rw [he]; exact h9, h10⟩
theorem vx_L.kept {C n d : String} {A : Nat → Prop} {U : State} {H H1 : Heap} (h : vx_L C n d A U H) (hq : ∀ a : Nat, a < H.size → ¬ A a → H1[a]? = H[a]?) : vx_L C n d A U H1 := by
  obtain ⟨c, k, i, f, a, cell, h1, h2, h3, h4, h5, h6, h7, h8, h9, h10⟩ := h
  exact ⟨c, k, i, f, a, cell, h1, h2, h3, h4, by rw [hq a (Array.getElem?_eq_some_iff.mp h5).1 h10]; exact h5, h6, h7, h8, h9, h10⟩
theorem vx_L.narrow {C n d : String} {A B : Nat → Prop} {U : State} {H : Heap} (h : vx_L C n d A U H) (hAB : ∀ q, B q → A q) : vx_L C n d B U H := by
  obtain ⟨c, k, i, f, a, cell, h1, h2, h3, h4, h5, h6, h7, h8, h9, h10⟩ := h
  exact ⟨c, k, i, f, a, cell, h1, h2, h3, h4, h5, h6, h7, h8, h9, fun z => h10 (hAB _ z)⟩
theorem vx_L.word {C n d : String} {A : Nat → Prop} {s : State} {args : Array Value} (h : vx_L C n d A s s.heap) : (Cond.laysStatic C n d).before args s = true := by
  obtain ⟨c, k, i, f, a, cell, h1, h2, h3, h4, h5, h6, h7, h8, h9, -⟩ := h
  show (Cond.laysStatic C n d).holds args s none s [] = true
  exact Cond.laysStatic_of h1 h2 h3 h4 h5 h6 h7 h8 h9
/-- .. and what it holds: null or some reference -/
def vx_Zq (C n d : String) (A : Nat → Prop) (U : State) (H : Heap) : Prop := va_Zq C n d A U H ∧ vx_L C n d A U H
theorem vx_Zq.moved {C n d : String} {A : Nat → Prop} {u U : State} {H : Heap} (hvm : u.vm.Alike U.vm) (h : vx_Zq C n d A u H) : vx_Zq C n d A U H := ⟨va_Zq.moved hvm h.1, vx_L.moved hvm h.2⟩
theorem vx_Zq.kept {C n d : String} {A : Nat → Prop} {U : State} {H H1 : Heap} (h : vx_Zq C n d A U H) (hq : ∀ a : Nat, a < H.size → ¬ A a → H1[a]? = H[a]?) : vx_Zq C n d A U H1 := ⟨va_Zq.kept h.1 hq, vx_L.kept h.2 hq⟩
theorem vx_Zq.narrow {C n d : String} {A B : Nat → Prop} {U : State} {H : Heap} (h : vx_Zq C n d A U H) (hAB : ∀ q, B q → A q) : vx_Zq C n d B U H := ⟨va_Zq.narrow h.1 hAB, vx_L.narrow h.2 hAB⟩
theorem vx_Zqof {args : Array Value} {s : State} {C n d : String} {A : Nat → Prop} (hl : (Cond.laysStatic C n d).before args s = true) (hini : (Cond.initialized C).before args s = true) (h : (Cond.isRef (.static C n d)).before args s = true) (hA : ∀ a : Nat, a < s.heap.size → ¬ A a) : vx_Zq C n d A s s.heap := by
  refine ⟨va_Zqof hl hini h hA, ?_⟩
  obtain ⟨c, k, i, f, a, cell, h1, h2, h3, h4, h5, h6, h7, h8, h9⟩ := Cond.laysStatic_spec hl
  exact ⟨c, k, i, f, a, cell, h1, h2, h3, h4, h5, h6, h7, h8, h9, hA a (Array.getElem?_eq_some_iff.mp h5).1⟩
theorem vx_isRef {C n d : String} {v : Value} {A : Nat → Prop} {s : State} {args : Array Value} (h : va_Z C n d v A s s.heap) (hv : v.isRef = true) : (Cond.isRef (.static C n d)).before args s = true := by
  obtain ⟨cf, kf, fi, f, a, cell, h1, h2, h3, h4, h5, h6, h7, -⟩ := h
  have he : (Term.static C n d).eval args s none [] s = some v := by
    simp [Term.eval, State.fieldNamed?, h1, h2, h4, h5, h6, h7]
  simp only [Cond.before, Cond.holds, Cond.value, he]
  cases v <;> simp_all [Value.isRef]
theorem vx_isRefq {C n d : String} {A : Nat → Prop} {s : State} {args : Array Value} (h : va_Zq C n d A s s.heap) : (Cond.isRef (.static C n d)).before args s = true := by
  rcases h with h | ⟨t, h⟩
  · exact vx_isRef h rfl
  · exact vx_isRef h rfl
/-- the same frame, seen from here: as if the method were called anew in this heap -/
theorem vx_rebase {T : State} (X : Stand p l e R s m args below meth c T locs cells slots) {R' : Room} (hf : R'.frames ≤ R.frames) (hl : R'.locals ≤ R.locals) (hc : cells + R'.cells ≤ R.cells) (hs : slots + R'.slots ≤ R.slots) :
    Stand p l e R' ((T.setVm s.vm).setFrames (.invoking m args :: below)) m args below meth c T [] 0 0 := by
  have htop : (T.setVm s.vm).topJava?.isSome := X.here.top
  have hF : ((T.setVm s.vm).setFrames (.invoking m args :: below)).frames = .invoking m args :: below := State.frames_setFrames _ (State.cur_lt_of_top htop)
  obtain ⟨g₀, hg0⟩ := Option.isSome_iff_exists.mp htop
  obtain ⟨r, hr⟩ := State.topJava?_eq_some.mp hg0
  have hl9 : e.platform.stackLimits (T.setVm s.vm).me = e.platform.stackLimits s.me := X.limits
  have hb9 : (T.setVm s.vm).me.stackBytes = s.me.stackBytes := X.bytes
  refine ⟨X.admits, X.cas, X.clock, hF, ?_, X.hears, X.method, X.code, X.here, X.tail, X.warmed, ?_, ?_, ?_⟩
  · have h := X.room
    have hU : ((T.setVm s.vm).setFrames (.invoking m args :: below)).localsInUse = s.localsInUse := by
      rw [State.localsInUse_invoking hF (meth := meth) (c := c) X.method X.code, State.localsInUse_invoking X.frames X.method X.code]
    simp only [State.hasRoom, Bool.and_eq_true, decide_eq_true_eq] at h ⊢
    obtain ⟨⟨⟨⟨h1, h2, h3, h4, h5, h6⟩, h7⟩, h8⟩, h9⟩ := h
    rw [X.frames, List.length_cons] at h2 h3
    have q1 := X.heapSize
    have q2 := X.used
    simp only [hF, hU, List.length_cons, State.stackLimits_setFrames, State.stackBytes_setFrames, hl9, hb9]
    refine ⟨⟨⟨⟨by omega, by omega, by omega, by omega, by omega, h6⟩, ?_⟩, ?_⟩, X.book⟩
    · show T.heap.size + R'.cells ≤ e.platform.maxCells
      omega
    · show T.slotsUsed + R'.slots ≤ e.platform.maxSlots
      omega
  · rw [State.stackLimits_setFrames]; rfl
  · rw [State.stackBytes_setFrames]; rfl
  · refine ⟨?_, Nat.le_refl _, Nat.le_refl _, ?_, ?_, fun a c9 h9 => ⟨c9, h9, rfl, rfl, fun _ _ => rfl⟩⟩
    · obtain ⟨t, ht, -⟩ := State.frames_cons hr
      show T.setVm s.vm = { ((T.setVm s.vm).setFrames (.invoking m args :: below)).setFrames (T.setVm s.vm).frames with heap := T.heap, slotsUsed := T.slotsUsed }
      rw [State.setFrames_setFrames, State.setFrames_self ht]
      rfl
    · show T.slotsUsed = T.slotsUsed + ((T.heap.toList.drop T.heap.size).map (·.slots.size)).sum
      rw [List.drop_eq_nil_of_le (Nat.le_of_eq Array.length_toList)]
      rfl
    · show ((T.heap.toList.drop T.heap.size).map (·.slots.size)).sum ≤ 0
      rw [List.drop_eq_nil_of_le (Nat.le_of_eq Array.length_toList)]
      exact Nat.le_refl _
/-- 'throw new E()': new; dup; invokespecial; athrow -/
theorem vx_throw0 {cc : ByteArray} {pc : Nat} (hexec : p.tables.exec = Jvm.exec) (hb : c.code = cc) (hl : l.stackTraces = false) {own cls : String} {names : List String} {ik ic mc ms : Nat} {A : Nat → Prop}
    (hown : s.vm.findClass own = some m.cls) (hcls : Bundle.fit cls = true) (hnames : ∀ n ∈ names, Bundle.fit n = true)
    (hk : (Cond.classLink own ik cls).before args s = true) (hini : (Cond.initialized cls).before args s = true) (hat : ∀ w ∈ vx_at0 own ic cls names, w.before args s = true)
    (hgood : ∀ w ∈ Cond.classLink own ik cls :: Cond.initialized cls :: vx_at0 own ic cls names, vx_ot w = true)
    (hU : vx_Zq Bundle.tN "UNASSIGNED_STACK" Bundle.steD A s s.heap) (hN : vx_Zq Bundle.tN "SUPPRESSED_SENTINEL" Bundle.listD A s s.heap) (hS : va_S A s.heap H locs) (hsize : ls.size = c.maxLocals)
    (d0 : decode cc pc = .ok (.new ik, 3)) (d3 : decode cc (pc + 3) = .ok (.dup, 1)) (d4 : decode cc (pc + 4) = .ok (.invokespecial ic, 3)) (d7 : decode cc (pc + 7) = .ok (.athrow, 1))
    (hout : ∀ x ∈ c.exceptionTable.toList, covers x (pc + 7) = false)
    (hRframes : names.length + 3 < R.frames) (hRlocals : (rest.map fun v => v.category).sum + (13 * (names.length + 1) + 42) ≤ R.locals) (hRcells : cells + 1 ≤ R.cells) (hRslots : slots + 6 ≤ R.slots) (hlocks : meth.locks = false)
    (hx : ∀ t : State, s.vm.Alike t.vm → H.size ≤ t.heap.size → (∀ q : Nat, q < H.size → t.heap[q]? = H[q]?) → XC cls s t)
    (hf : ∀ z ∈ locs, free z.base) (hc : cells + 1 ≤ mc) (hs : slots + 6 ≤ ms) :
    W p l e R s m args below meth c H locs cells slots (vx_MQ below Qc XC args s mc ms free) (F0 m pc ls rest) := by
  intro T hT X
  have htr : e.platform.stackTraces = false := (show e.platform.stackTraces = l.stackTraces by rw [X.admits.platform]).trans hl
  have Y := vx_rebase X (R' := { frames := R.frames, locals := R.locals, cells := 1, slots := 6 }) (Nat.le_refl _) (Nat.le_refl _) hRcells hRslots
  obtain ⟨s', hA⟩ : ∃ z, z = (T.setVm s.vm).setFrames (.invoking m args :: below) := ⟨_, rfl⟩
  rw [← hA] at Y
  have hvm : s'.vm = s.vm := by rw [hA]; rfl
  have hhp : s'.heap = H := by rw [hA]; exact hT
  have hW0 : s.WarmedH s'.vm := by rw [hvm]; exact State.WarmedH.refl s
  have hat' : ∀ w ∈ vx_at0 own ic cls names, w.before args s' = true := fun w hw => vx_ot_at hW0 hvm.symm (hgood w (List.mem_cons_of_mem _ (List.mem_cons_of_mem _ hw))) (hat w hw)
  have hk' : (Cond.classLink own ik cls).before args s' = true := vx_ot_at hW0 hvm.symm (hgood _ List.mem_cons_self) hk
  have hini' : (Cond.initialized cls).before args s' = true := vx_ot_at hW0 hvm.symm (hgood _ (List.mem_cons_of_mem _ List.mem_cons_self)) hini
  have hU' : vx_Zq Bundle.tN "UNASSIGNED_STACK" Bundle.steD A s' s'.heap := by rw [hhp]; exact vx_Zq.moved hW0.alike (hU.kept hS.2.1)
  have hN' : vx_Zq Bundle.tN "SUPPRESSED_SENTINEL" Bundle.listD A s' s'.heap := by rw [hhp]; exact vx_Zq.moved hW0.alike (hN.kept hS.2.1)
  have h : ∀ w ∈ Bundle.ownAtoms0 own ic cls names, w.before args s' = true := vx_own hat' (vx_isRefq hU'.1) (vx_isRefq hN'.1) hU'.2.word hN'.2.word
  have hown' : s'.vm.findClass own = some m.cls := by rw [hvm]; exact hown
  have hins : (Cond.instantiable cls 6).before args s' = true := h _ (by simp [Bundle.ownAtoms0])
  obtain ⟨vm₁, cX, kX, hfX, hkX, -, -, X₁, st1⟩ := Y.newCold hexec (own := own) (C := cls) (index := ik) (n := 6) hown' hk' hins hini'
    (g := F0 m pc ls rest) rfl (by rw [hb]; exact d0) (Nat.le_refl _) (Nat.le_refl _)
  generalize hT1 : (T.setVm vm₁).pushCell { cls := cX, slots := kX.instanceTypes.map defaultValue, vm := .none } = T1 at X₁ st1
  have hcat : (Value.ref T.heap.size).category = 1 := rfl
  have hcellA : T1.heap[T.heap.size]? = some (freshCell cX kX) := by rw [← hT1]; exact State.heap_pushCell_size _ _
  have d3' : decode c.code (pc + 3) = .ok (.dup, 1) := by rw [hb]; exact d3
  obtain ⟨U, hsteps, hrun, hend, hW, hsame, ce, hce, hO⟩ := X₁.ctorThrow0 hexec htr (own := own) (cls := cls) (names := names) (ic := ic) hown' hcls hnames h (fun x hx => nomatch hx) hfX hkX hcellA (by rw [hhp, hT]; exact Nat.le_refl _)
    (g := { method := m, pc := pc + 4, locals := ls, stack := .ref T.heap.size :: .ref T.heap.size :: rest, locked := none }) rfl hsize rfl rfl (rest := rest) rfl
    (by rw [hb]; exact d4) (by rw [hb]; exact d7) hout hRframes (by simp only [List.map_cons, List.sum_cons, hcat]; omega) hlocks
  obtain ⟨f1, f2⟩ := vx_frame hsame
  rw [hhp] at f1 f2
  have hWs : s.WarmedH U.vm := State.WarmedH.trans hW0 hW
  have hcl : s.vm.findClass cls = some ce.cls := by
    have h9 := hO.cls
    rw [hvm] at h9
    exact h9
  have hall : s.sameButNew ({ U with vm := s.vm } : State) locs mc ms := by
    subst hA
    obtain ⟨e1, e2⟩ := hsame
    rw [State.setFrames_setFrames] at e1
    have h2 : (T.setVm s.vm).sameButNew ({ U with vm := s.vm } : State) [] (0 + 1) (0 + 6) := ⟨e1, e2⟩
    have h3 := X.same.trans h2
    rw [List.append_nil] at h3
    exact h3.mono hc hs
  refine ⟨U, ?_, .threw T.heap.size, hrun, hend, Or.inr ⟨T.heap.size, rfl, cls, ce, locs, hx U hWs.alike f1 (fun q hq => f2 q hq (fun z hz => nomatch hz)), hce, hO.vm, hcl, hWs, hall, hf⟩⟩
  refine st1 _ ?_
  show Steps p.tables e below (T1.setTop { method := m, pc := pc + 3, locals := ls, stack := .ref T.heap.size :: rest, locked := none }) _
  jvm_step X₁.here [X₁.here.top, hexec, d3', Value.category]
  exact hsteps
/-- 'throw new E("text")': new; dup; ldc; invokespecial; athrow -/
theorem vx_throwS {cc : ByteArray} {pc : Nat} (hexec : p.tables.exec = Jvm.exec) (hb : c.code = cc) (hl : l.stackTraces = false) {own cls text : String} {names : List String} {ik is ic mc ms sa : Nat} {A : Nat → Prop}
    (hown : s.vm.findClass own = some m.cls) (hcls : Bundle.fit cls = true) (hnames : ∀ n ∈ names, Bundle.fit n = true)
    (hk : (Cond.classLink own ik cls).before args s = true) (hini : (Cond.initialized cls).before args s = true) (hstr : vk_R own is text sa s) (hat : ∀ w ∈ vx_atS own ic cls names, w.before args s = true)
    (hgood : ∀ w ∈ Cond.classLink own ik cls :: Cond.initialized cls :: vx_atS own ic cls names, vx_ot w = true)
    (hU : vx_Zq Bundle.tN "UNASSIGNED_STACK" Bundle.steD A s s.heap) (hN : vx_Zq Bundle.tN "SUPPRESSED_SENTINEL" Bundle.listD A s s.heap) (hS : va_S A s.heap H locs) (hsize : ls.size = c.maxLocals)
    (d0 : decode cc pc = .ok (.new ik, 3)) (d3 : decode cc (pc + 3) = .ok (.dup, 1)) (d4 : decode cc (pc + 4) = .ok (.ldc is, 2)) (d6 : decode cc (pc + 6) = .ok (.invokespecial ic, 3)) (d9 : decode cc (pc + 9) = .ok (.athrow, 1))
    (hout : ∀ x ∈ c.exceptionTable.toList, covers x (pc + 9) = false)
    (hRframes : names.length + 3 < R.frames) (hRlocals : (rest.map fun v => v.category).sum + (13 * (names.length + 1) + 43) ≤ R.locals) (hRcells : cells + 1 ≤ R.cells) (hRslots : slots + 6 ≤ R.slots) (hlocks : meth.locks = false)
    (hx : ∀ t : State, s.vm.Alike t.vm → H.size ≤ t.heap.size → (∀ q : Nat, q < H.size → t.heap[q]? = H[q]?) → XC cls s t)
    (hf : ∀ z ∈ locs, free z.base) (hc : cells + 1 ≤ mc) (hs : slots + 6 ≤ ms) :
    W p l e R s m args below meth c H locs cells slots (vx_MQ below Qc XC args s mc ms free) (F0 m pc ls rest) := by
  intro T hT X
  have htr : e.platform.stackTraces = false := (show e.platform.stackTraces = l.stackTraces by rw [X.admits.platform]).trans hl
  have Y := vx_rebase X (R' := { frames := R.frames, locals := R.locals, cells := 1, slots := 6 }) (Nat.le_refl _) (Nat.le_refl _) hRcells hRslots
  obtain ⟨s', hA⟩ : ∃ z, z = (T.setVm s.vm).setFrames (.invoking m args :: below) := ⟨_, rfl⟩
  rw [← hA] at Y
  have hvm : s'.vm = s.vm := by rw [hA]; rfl
  have hhp : s'.heap = H := by rw [hA]; exact hT
  have hW0 : s.WarmedH s'.vm := by rw [hvm]; exact State.WarmedH.refl s
  have hat' : ∀ w ∈ vx_atS own ic cls names, w.before args s' = true := fun w hw => vx_ot_at hW0 hvm.symm (hgood w (List.mem_cons_of_mem _ (List.mem_cons_of_mem _ hw))) (hat w hw)
  have hk' : (Cond.classLink own ik cls).before args s' = true := vx_ot_at hW0 hvm.symm (hgood _ List.mem_cons_self) hk
  have hini' : (Cond.initialized cls).before args s' = true := vx_ot_at hW0 hvm.symm (hgood _ (List.mem_cons_of_mem _ List.mem_cons_self)) hini
  have hU' : vx_Zq Bundle.tN "UNASSIGNED_STACK" Bundle.steD A s' s'.heap := by rw [hhp]; exact vx_Zq.moved hW0.alike (hU.kept hS.2.1)
  have hN' : vx_Zq Bundle.tN "SUPPRESSED_SENTINEL" Bundle.listD A s' s'.heap := by rw [hhp]; exact vx_Zq.moved hW0.alike (hN.kept hS.2.1)
  have h : ∀ w ∈ Bundle.ownAtoms own ic cls names, w.before args s' = true := vx_own hat' (vx_isRefq hU'.1) (vx_isRefq hN'.1) hU'.2.word hN'.2.word
  have hown' : s'.vm.findClass own = some m.cls := by rw [hvm]; exact hown
  have hins : (Cond.instantiable cls 6).before args s' = true := h _ (by simp [Bundle.ownAtoms])
  obtain ⟨vm₁, cX, kX, hfX, hkX, -, -, X₁, st1⟩ := Y.newCold hexec (own := own) (C := cls) (index := ik) (n := 6) hown' hk' hins hini'
    (g := F0 m pc ls rest) rfl (by rw [hb]; exact d0) (Nat.le_refl _) (Nat.le_refl _)
  generalize hT1 : (T.setVm vm₁).pushCell { cls := cX, slots := kX.instanceTypes.map defaultValue, vm := .none } = T1 at X₁ st1
  have hcat : (Value.ref T.heap.size).category = 1 := rfl
  have hcellA : T1.heap[T.heap.size]? = some (freshCell cX kX) := by rw [← hT1]; exact State.heap_pushCell_size _ _
  have d3' : decode c.code (pc + 3) = .ok (.dup, 1) := by rw [hb]; exact d3
  have d4' : decode c.code (pc + 4) = .ok (.ldc is, 2) := by rw [hb]; exact d4
  have hstr' : vk_R own is text sa s' := vk_R.warm hW0 hstr
  obtain ⟨U, hsteps, hrun, hend, hW, hsame, ce, hce, hO⟩ := X₁.ctorThrowS hexec htr (own := own) (cls := cls) (names := names) (ic := ic) hown' hcls hnames h (fun x hx => nomatch hx) hfX hkX hcellA (by rw [hhp, hT]; exact Nat.le_refl _) (msg := .ref sa) rfl
    (g := { method := m, pc := pc + 6, locals := ls, stack := .ref sa :: .ref T.heap.size :: .ref T.heap.size :: rest, locked := none }) rfl hsize rfl rfl (rest := rest) rfl
    (by rw [hb]; exact d6) (by rw [hb]; exact d9) hout hRframes (by simp only [List.map_cons, List.sum_cons, hcat]; omega) hlocks
  obtain ⟨f1, f2⟩ := vx_frame hsame
  rw [hhp] at f1 f2
  have hWs : s.WarmedH U.vm := State.WarmedH.trans hW0 hW
  have hcl : s.vm.findClass cls = some ce.cls := by
    have h9 := hO.cls
    rw [hvm] at h9
    exact h9
  have hall : s.sameButNew ({ U with vm := s.vm } : State) locs mc ms := by
    subst hA
    obtain ⟨e1, e2⟩ := hsame
    rw [State.setFrames_setFrames] at e1
    have h2 : (T.setVm s.vm).sameButNew ({ U with vm := s.vm } : State) [] (0 + 1) (0 + 6) := ⟨e1, e2⟩
    have h3 := X.same.trans h2
    rw [List.append_nil] at h3
    exact h3.mono hc hs
  refine ⟨U, ?_, .threw T.heap.size, hrun, hend, Or.inr ⟨T.heap.size, rfl, cls, ce, locs, hx U hWs.alike f1 (fun q hq => f2 q hq (fun z hz => nomatch hz)), hce, hO.vm, hcl, hWs, hall, hf⟩⟩
  refine st1 _ ?_
  show Steps p.tables e below (T1.setTop { method := m, pc := pc + 3, locals := ls, stack := .ref T.heap.size :: rest, locked := none }) _
  jvm_step X₁.here [X₁.here.top, hexec, d3', Value.category]
  exact X₁.ldcString hexec (own := own) (text := text) (index := is) (a := sa) hown' hstr'.1 hstr'.2
    (g := { method := m, pc := pc + 4, locals := ls, stack := .ref T.heap.size :: .ref T.heap.size :: rest, locked := none }) rfl d4' _ hsteps
/-- 'throw new E("text")', the text by a wide index -/
theorem vx_throwSW {cc : ByteArray} {pc : Nat} (hexec : p.tables.exec = Jvm.exec) (hb : c.code = cc) (hl : l.stackTraces = false) {own cls text : String} {names : List String} {ik is ic mc ms sa : Nat} {A : Nat → Prop}
    (hown : s.vm.findClass own = some m.cls) (hcls : Bundle.fit cls = true) (hnames : ∀ n ∈ names, Bundle.fit n = true)
    (hk : (Cond.classLink own ik cls).before args s = true) (hini : (Cond.initialized cls).before args s = true) (hstr : vk_R own is text sa s) (hat : ∀ w ∈ vx_atS own ic cls names, w.before args s = true)
    (hgood : ∀ w ∈ Cond.classLink own ik cls :: Cond.initialized cls :: vx_atS own ic cls names, vx_ot w = true)
    (hU : vx_Zq Bundle.tN "UNASSIGNED_STACK" Bundle.steD A s s.heap) (hN : vx_Zq Bundle.tN "SUPPRESSED_SENTINEL" Bundle.listD A s s.heap) (hS : va_S A s.heap H locs) (hsize : ls.size = c.maxLocals)
    (d0 : decode cc pc = .ok (.new ik, 3)) (d3 : decode cc (pc + 3) = .ok (.dup, 1)) (d4 : decode cc (pc + 4) = .ok (.ldc_w is, 3)) (d7 : decode cc (pc + 7) = .ok (.invokespecial ic, 3)) (d10 : decode cc (pc + 10) = .ok (.athrow, 1))
    (hout : ∀ x ∈ c.exceptionTable.toList, covers x (pc + 10) = false)
    (hRframes : names.length + 3 < R.frames) (hRlocals : (rest.map fun v => v.category).sum + (13 * (names.length + 1) + 43) ≤ R.locals) (hRcells : cells + 1 ≤ R.cells) (hRslots : slots + 6 ≤ R.slots) (hlocks : meth.locks = false)
    (hx : ∀ t : State, s.vm.Alike t.vm → H.size ≤ t.heap.size → (∀ q : Nat, q < H.size → t.heap[q]? = H[q]?) → XC cls s t)
    (hf : ∀ z ∈ locs, free z.base) (hc : cells + 1 ≤ mc) (hs : slots + 6 ≤ ms) :
    W p l e R s m args below meth c H locs cells slots (vx_MQ below Qc XC args s mc ms free) (F0 m pc ls rest) := by
  intro T hT X
  have htr : e.platform.stackTraces = false := (show e.platform.stackTraces = l.stackTraces by rw [X.admits.platform]).trans hl
  have Y := vx_rebase X (R' := { frames := R.frames, locals := R.locals, cells := 1, slots := 6 }) (Nat.le_refl _) (Nat.le_refl _) hRcells hRslots
  obtain ⟨s', hA⟩ : ∃ z, z = (T.setVm s.vm).setFrames (.invoking m args :: below) := ⟨_, rfl⟩
  rw [← hA] at Y
  have hvm : s'.vm = s.vm := by rw [hA]; rfl
  have hhp : s'.heap = H := by rw [hA]; exact hT
  have hW0 : s.WarmedH s'.vm := by rw [hvm]; exact State.WarmedH.refl s
  have hat' : ∀ w ∈ vx_atS own ic cls names, w.before args s' = true := fun w hw => vx_ot_at hW0 hvm.symm (hgood w (List.mem_cons_of_mem _ (List.mem_cons_of_mem _ hw))) (hat w hw)
  have hk' : (Cond.classLink own ik cls).before args s' = true := vx_ot_at hW0 hvm.symm (hgood _ List.mem_cons_self) hk
  have hini' : (Cond.initialized cls).before args s' = true := vx_ot_at hW0 hvm.symm (hgood _ (List.mem_cons_of_mem _ List.mem_cons_self)) hini
  have hU' : vx_Zq Bundle.tN "UNASSIGNED_STACK" Bundle.steD A s' s'.heap := by rw [hhp]; exact vx_Zq.moved hW0.alike (hU.kept hS.2.1)
  have hN' : vx_Zq Bundle.tN "SUPPRESSED_SENTINEL" Bundle.listD A s' s'.heap := by rw [hhp]; exact vx_Zq.moved hW0.alike (hN.kept hS.2.1)
  have h : ∀ w ∈ Bundle.ownAtoms own ic cls names, w.before args s' = true := vx_own hat' (vx_isRefq hU'.1) (vx_isRefq hN'.1) hU'.2.word hN'.2.word
  have hown' : s'.vm.findClass own = some m.cls := by rw [hvm]; exact hown
  have hins : (Cond.instantiable cls 6).before args s' = true := h _ (by simp [Bundle.ownAtoms])
  obtain ⟨vm₁, cX, kX, hfX, hkX, -, -, X₁, st1⟩ := Y.newCold hexec (own := own) (C := cls) (index := ik) (n := 6) hown' hk' hins hini'
    (g := F0 m pc ls rest) rfl (by rw [hb]; exact d0) (Nat.le_refl _) (Nat.le_refl _)
  generalize hT1 : (T.setVm vm₁).pushCell { cls := cX, slots := kX.instanceTypes.map defaultValue, vm := .none } = T1 at X₁ st1
  have hcat : (Value.ref T.heap.size).category = 1 := rfl
  have hcellA : T1.heap[T.heap.size]? = some (freshCell cX kX) := by rw [← hT1]; exact State.heap_pushCell_size _ _
  have d3' : decode c.code (pc + 3) = .ok (.dup, 1) := by rw [hb]; exact d3
  have d4' : decode c.code (pc + 4) = .ok (.ldc_w is, 3) := by rw [hb]; exact d4
  have hstr' : vk_R own is text sa s' := vk_R.warm hW0 hstr
  obtain ⟨U, hsteps, hrun, hend, hW, hsame, ce, hce, hO⟩ := X₁.ctorThrowS hexec htr (own := own) (cls := cls) (names := names) (ic := ic) hown' hcls hnames h (fun x hx => nomatch hx) hfX hkX hcellA (by rw [hhp, hT]; exact Nat.le_refl _) (msg := .ref sa) rfl
    (g := { method := m, pc := pc + 7, locals := ls, stack := .ref sa :: .ref T.heap.size :: .ref T.heap.size :: rest, locked := none }) rfl hsize rfl rfl (rest := rest) rfl
    (by rw [hb]; exact d7) (by rw [hb]; exact d10) hout hRframes (by simp only [List.map_cons, List.sum_cons, hcat]; omega) hlocks
  obtain ⟨f1, f2⟩ := vx_frame hsame
  rw [hhp] at f1 f2
  have hWs : s.WarmedH U.vm := State.WarmedH.trans hW0 hW
  have hcl : s.vm.findClass cls = some ce.cls := by
    have h9 := hO.cls
    rw [hvm] at h9
    exact h9
  have hall : s.sameButNew ({ U with vm := s.vm } : State) locs mc ms := by
    subst hA
    obtain ⟨e1, e2⟩ := hsame
    rw [State.setFrames_setFrames] at e1
    have h2 : (T.setVm s.vm).sameButNew ({ U with vm := s.vm } : State) [] (0 + 1) (0 + 6) := ⟨e1, e2⟩
    have h3 := X.same.trans h2
    rw [List.append_nil] at h3
    exact h3.mono hc hs
  refine ⟨U, ?_, .threw T.heap.size, hrun, hend, Or.inr ⟨T.heap.size, rfl, cls, ce, locs, hx U hWs.alike f1 (fun q hq => f2 q hq (fun z hz => nomatch hz)), hce, hO.vm, hcl, hWs, hall, hf⟩⟩
  refine st1 _ ?_
  show Steps p.tables e below (T1.setTop { method := m, pc := pc + 3, locals := ls, stack := .ref T.heap.size :: rest, locked := none }) _
  jvm_step X₁.here [X₁.here.top, hexec, d3', Value.category]
  exact X₁.ldcStringW hexec (own := own) (text := text) (index := is) (a := sa) hown' hstr'.1 hstr'.2
    (g := { method := m, pc := pc + 4, locals := ls, stack := .ref T.heap.size :: .ref T.heap.size :: rest, locked := none }) rfl d4' _ hsteps
end Ends
section Bodies
variable {l : Launch}
theorem vx_ofW {y : MethodName} {ws ws' : List Cond} {rm : Room} {Pc : Array Value → State → Prop} {Qc : Array Value → State → Outcome → State → Prop} {XC : String → State → State → Prop} {mc ms : Nat} {free : Addr → Prop} {cc : ByteArray} {maxL : Nat} {ret : Option FieldType}
    (hy : plainName y.cls = true) (hw : ws = Cond.code y cc maxL ret :: ws')
    (body : ∀ p e s m args below meth c s₁, BodyLoose p l y (headSpec ws rm) cc maxL ret e s m args below meth c s₁ → c.maxLocals = maxL → (∀ x ∈ c.exceptionTable.toList, False) → Pc args s →
      W p l e (headSpec ws rm).room s m args below meth c s.heap [] 0 0 (vx_MQ below Qc XC args s mc ms free) (entryFrame m args maxL)) : vx_Met l y ws rm Pc Qc XC mc ms free := by
  refine MetFree.of_bodyS (code := cc) (maxLocals := maxL) (ret := ret) hy ?_ ?_
  · intro args s m h hn
    obtain ⟨meth, c, h1, h2, h3, h4, h5, h6, -, -⟩ := Cond.code_spec hn (atoms_spec (ws := ws) h _ (by rw [hw]; exact List.mem_cons_self))
    exact ⟨meth, c, h1, h2, h3, h4, h5, h6⟩
  · intro p e s m args below meth c s₁ B hml hP _
    have hh0 : s₁.heap = s.heap := by rw [B.state]; rfl
    have ht : ∀ x ∈ c.exceptionTable.toList, False := by
      obtain ⟨meth9, c9, h1, h2, -, -, -, -, h7, -⟩ := Cond.code_spec B.named (atoms_spec (ws := ws) B.pre _ (by rw [hw]; exact List.mem_cons_self))
      cases Option.some.inj (h1.symm.trans B.method)
      cases Option.some.inj (h2.symm.trans (Stand.of_body B).code)
      intro x hx
      rw [Array.isEmpty_iff.mp h7] at hx
      cases hx
    obtain ⟨t, a1, o, b1, b2, b3⟩ := body p e s m args below meth c s₁ B hml ht hP s₁ hh0 (Stand.of_body B)
    exact ⟨t, o, a1, b1, b2, b3⟩
/-- the table of a body with handlers -/
theorem vx_table {p : Program} {x y : MethodName} {S : Spec} {cc bytes : ByteArray} {maxL maxL' : Nat} {ret ret' : Option FieldType} {e : Env} {s s₁ : State} {m : MethodId} {args : Array Value} {below : List Frame} {meth : Method} {c : Code} {hh : List (Nat × Nat × Nat × Nat)}
    (B : BodyLoose p l y S cc maxL ret e s m args below meth c s₁) (h : (Cond.codeWith y bytes maxL' ret' hh).before args s = true) : c.exceptionTable.toList = tableOf hh := by
  obtain ⟨m9, meth9, c9, hn9, h1, h2, -, -, h6, -⟩ := Cond.codeWith_spec h
  cases Option.some.inj (hn9.symm.trans B.named)
  cases Option.some.inj (h1.symm.trans B.method)
  cases Option.some.inj (h2.symm.trans (Stand.of_body B).code)
  rw [← h6, table_eq]
end Bodies
end VXA
/-! ===== END ===== -/
/-! ===== BEGIN a static call of a method with an exception table ===== -/
section VXS
variable {p : Program} {l : Launch} {e : Env} {R : Room} {s : State} {m : MethodId} {args : Array Value} {below : List Frame} {meth : Method} {c : Code} {T : State} {H : Heap} {locs : List Loc} {cells slots : Nat}
abbrev vx_CSW (R : Room) (s : State) (args : Array Value) (own : String) (index : Nat) (y : MethodName) (bytes : ByteArray) (maxL : Nat) (ret : Option FieldType) (hh : List (Nat × Nat × Nat × Nat)) (ws : List Cond) (rm : Room) (mc ms n : Nat) : Prop :=
  (rm.cells = mc ∧ rm.slots = ms ∧ rm.frames + 1 ≤ R.frames ∧ 8 + (maxL + 11) + rm.locals ≤ R.locals ∧ (∀ w ∈ ws, ∀ (a' : Array Value) (U : State), s.WarmedH U.vm → w.before a' U = true) ∧ Cond.codeWith y bytes maxL ret hh ∈ ws) ∧
  (Cond.codeWith y bytes maxL ret hh).before args s = true ∧ (Cond.initialized y.cls).before args s = true ∧ (y.cls ≠ "java/lang/invoke/MethodHandle" ∧ y.cls ≠ "java/lang/invoke/VarHandle") ∧
  (∀ sig, parseMethodDescriptor y.desc = some sig → n = sig.parameters.length) ∧ (Cond.methodLink own index y).before args s = true ∧ (Cond.static y).before args s = true
theorem vx_cwSW {own : String} {index maxL mc ms : Nat} {y : MethodName} {bytes : ByteArray} {ret : Option FieldType} {hh : List (Nat × Nat × Nat × Nat)} {Ts ws ws' : List Cond} {rm : Room} (n : Nat) (ht : ∀ w ∈ Ts, w.before args s = true) (hT : GoodIn Ts (va_wsS own index y ws)) (hw : ws = Cond.codeWith y bytes maxL ret hh :: ws') (hrc : rm.cells = mc) (hrs : rm.slots = ms)
    (hd : y.cls ≠ "java/lang/invoke/MethodHandle" ∧ y.cls ≠ "java/lang/invoke/VarHandle" ∧ (parseMethodDescriptor y.desc).map (fun d => d.parameters.length) = some n) (hR : rm.frames + 1 ≤ R.frames ∧ 8 + (maxL + 11) + rm.locals ≤ R.locals) :
    vx_CSW R s args own index y bytes maxL ret hh ws rm mc ms n := by
  have ok : ∀ w ∈ va_wsS own index y ws, w.before args s = true := fun w h => ht w (hT w h).1
  have hG : GoodIn Ts ws := fun w h => hT w (by unfold va_wsS; exact List.mem_append_right _ h)
  have hc : Cond.codeWith y bytes maxL ret hh ∈ ws := by rw [hw]; exact List.mem_cons_self
  refine ⟨⟨hrc, hrs, hR.1, hR.2, pay_in ht hG, hc⟩, ht _ (hG _ hc).1, ok _ (by simp [va_wsS]), ⟨hd.1, hd.2.1⟩, fun sig h => ?_, ok _ (by simp [va_wsS]), ok _ (by simp [va_wsS])⟩
  have h2 := hd.2.2
  rw [h] at h2
  exact (Option.some.inj h2).symm
theorem vx_callSW (X : Stand p l e R s m args below meth c T locs cells slots) (hexec : p.tables.exec = Jvm.exec) {own : String} {index : Nat} {y : MethodName} {bytes : ByteArray} {maxL : Nat} {ret : Option FieldType} {hh : List (Nat × Nat × Nat × Nat)}
    (hown : s.vm.findClass own = some m.cls) (hlink : (Cond.methodLink own index y).before args s = true) (hstat : (Cond.static y).before args s = true) (hinit : (Cond.initialized y.cls).before args s = true)
    (hcode : (Cond.codeWith y bytes maxL ret hh).before args s = true) (hy : y.cls ≠ "java/lang/invoke/MethodHandle" ∧ y.cls ≠ "java/lang/invoke/VarHandle")
    {W9 : Nat} {Pre : Pt → Array Value → Prop} {Post : Pt → Array Value → Option Value → Pt → Prop} (hK : Back l R p e below s args y 3 W9 Pre Post)
    {g : JFrame} (hg : g.method = m) (hsize : g.locals.size = c.maxLocals) {argsL rest : List Value} (hlen : ∀ sig, parseMethodDescriptor y.desc = some sig → argsL.length = sig.parameters.length)
    (hstack : g.stack = argsL.reverse ++ rest) (hW : 2 * g.monitorRoom + (rest.map fun v => v.category).sum ≤ W9) (hdg : decode c.code g.pc = .ok (.invokestatic index, 3))
    (hpre : ∀ vm₁, s.WarmedH vm₁ → Pre ⟨T.setVm vm₁, locs, cells, slots⟩ argsL.toArray) :
    ∃ (v : Option Value) (vm₁ : Vm) (B : Pt), s.WarmedH vm₁ ∧ Stand p l e R s m args below meth c B.U B.locs B.cells B.slots ∧ Post ⟨T.setVm vm₁, locs, cells, slots⟩ argsL.toArray v B ∧
      ∀ target, Steps p.tables e below (B.U.setTop { g with pc := g.pc + 3, stack := v.toList ++ rest }) target → Steps p.tables e below (T.setTop g) target := by
  obtain ⟨mk, methM, cM, hnamed, hmethM, -, -, -, -, -, -, hsigM⟩ := Cond.codeWith_spec hcode
  have hstatic : methM.isStatic = true := Cond.static_spec hnamed hmethM hstat
  obtain ⟨kP, hkP, -⟩ := className_of_methodNamed hnamed
  have hinitP : kP.init = .initialized := Cond.initialized_spec (findClass_of_methodNamed hnamed) hkP hinit
  obtain ⟨vm₁, X₁, hstep₁⟩ := X.invokestatic hexec hown hlink hnamed hmethM hstatic hkP hinitP hy (g := g) hg (argsL := argsL) (rest := rest) (hlen _ hsigM) hstack hdg
  obtain ⟨v, B, X', hpost, hsteps⟩ := hK m meth c ⟨T.setVm vm₁, locs, cells, slots⟩ { g with stack := rest } (.invokestatic index) mk argsL.toArray X₁ hg hsize hdg hW (X₁.named hnamed) (hpre vm₁ X₁.warmed)
  exact ⟨v, vm₁, B, X₁.warmed, X', hpost, fun target h => hstep₁ _ fun acts => by rw [doInvoke_state]; exact hsteps.trans h⟩
theorem vx_runSW {y : MethodName} {bytes cc : ByteArray} {maxL nL mc ms n index : Nat} {ret : Option FieldType} {hh : List (Nat × Nat × Nat × Nat)} {ws : List Cond} {rm : Room} {Pc : Array Value → State → Prop} {Qc : Array Value → State → Outcome → State → Prop} {free : Addr → Prop} {Ts : List Cond} {own : String} {As rest : List Value} {g : JFrame}
    (S : CallFix p m c cc nL s args Ts own) (hM : Met l y ws rm Pc Qc mc ms free) (cw : vx_CSW R s args own index y bytes maxL ret hh ws rm mc ms n) (hp : PreS s H Pc As)
    (hg : g.method = m) (hn : As.length = n) (hsize : g.locals.size = nL) (hstack : g.stack = As.reverse ++ rest) (hW : 2 * g.monitorRoom + (rest.map fun v => v.category).sum ≤ 8) (hdg : decode cc g.pc = .ok (.invokestatic index, 3)) (hf : cells + mc ≤ R.cells ∧ slots + ms ≤ R.slots) :
    va_Run p l e R s m args below meth c H locs cells slots mc ms g rest (Qc As.toArray) (free) := by
  obtain ⟨⟨hrc, hrs, hfr, hlo, hws, hcw⟩, hcode, hini, hy, hlen, hl, hstt⟩ := cw
  have hK : Back l R p e below s args y 3 8 (PreOf R mc ms Pc) (PostOf Qc mc ms free) := va_backW (hh := hh) (bytes := bytes) (maxL := maxL) (ret := ret) hM hp.1 hrc hrs hfr hlo hws hcw (fun a' U hW => word_at hW (Or.inl (by first | rfl | simp [Cond.onTables, Cond.keeps, Cond.steady])) hini)
  obtain ⟨hx, hb, hml, ho, -⟩ := S
  intro T hT X
  obtain ⟨v, vm₁, ⟨U', l2, c2, s2⟩, hW₁, X', ⟨g', mk, t, L, e1, e2, hq, h1, hL, h2, h3⟩, st⟩ := vx_callSW X hx (hh := hh) (bytes := bytes) (maxL := maxL) (ret := ret) ho hl hstt hini hcode hy hK hg (hsize.trans hml.symm) (argsL := As) (rest := rest) (fun sig h => hn.trans (hlen sig h)) hstack hW (by rw [hb]; exact hdg)
    (fun vm₁ hW₁ => ⟨hf.1, hf.2, hp.2 (T.setVm vm₁) hT hW₁⟩)
  dsimp only [Pt.U, Pt.locs, Pt.cells, Pt.slots] at X' e1 e2 h1 h2 h3 st
  subst h1; subst h2; subst h3
  exact ⟨v, (T.setVm vm₁).calling g' mk As.toArray, t, U', L, hT, X', hL, e1, e2, hq, st⟩
/-- not caught here, past rows that name other classes: it goes on to the caller -/
theorem vx_outP {p : Program} {l : Launch} {e : Env} {R : Room} {s : State} {m : MethodId} {args : Array Value} {below : List Frame} {meth : Method} {c : Code} {H : Heap} {locs : List Loc} {cells slots : Nat} {free : Addr → Prop} {ls : Array Slot} {rest : List Value} {Qc : Array Value → State → Outcome → State → Prop} {XC : String → State → State → Prop}
    {pc : Nat} {own E : String} {ce : Cell} {q : Addr} {mc ms : Nat} (hown : s.vm.findClass own = some m.cls) (hlocks : meth.locks = false)
    (hpass : ∀ z ∈ c.exceptionTable.toList, covers z pc = false ∨ (z.catchType ≠ 0 ∧ ∃ nm : String, (Cond.classLink own z.catchType nm).before args s = true ∧ va_Nc E nm s)) (hcell : H[q]? = some ce) (hv : ce.vm = .none) (hcl : s.vm.findClass E = some ce.cls)
    (hx : ∀ t : State, t.heap = H → s.vm.Alike t.vm → XC E s t) (hf : ∀ z ∈ locs, free z.base) (hc : cells ≤ mc) (hs : slots ≤ ms) :
    vx_W p l e R s m args below meth c H locs cells slots (vx_MQ below Qc XC args s mc ms free) (F0 m pc ls rest) q := by
  intro T hT X
  have hpl : e.platform.magicAccessors = ({} : Platform).magicAccessors := by rw [X.admits.platform]
  obtain ⟨vm', hW', X', st⟩ := X.outThrough hlocks q (g := F0 m pc ls rest) rfl rfl rfl (cell := ce) (by rw [hT]; exact hcell) (by rw [hv]; rfl)
    (by obtain ⟨k9, h9, -⟩ := Vm.findClass_spec hcl; exact ⟨k9, h9⟩) (fun z hz => by
      rcases hpass z hz with h | ⟨hz0, nm, hl1, hn1⟩
      · exact Or.inl h
      · obtain ⟨c6, hc6, hcl6⟩ := Cond.classLink_spec hown hl1 e.platform hpl
        obtain ⟨a8, b8, h1, h2, h3⟩ := hn1
        cases Option.some.inj (h1.symm.trans hcl)
        cases Option.some.inj (h2.symm.trans hc6)
        exact Or.inr ⟨hz0, _, hcl6, h3⟩)
  obtain ⟨g₀, hfr⟩ := X'.frames_eq
  have hcell9 : ((T.setVm vm').setFrames (.throwing q :: below)).heap[q]? = some ce := by
    show T.heap[q]? = some ce
    rw [hT]; exact hcell
  have hend : Ended ((T.setVm vm').setFrames (.throwing q :: below)) below (.threw q) := State.frames_setFrames _ (State.cur_lt_of_frames hfr)
  refine ⟨(T.setVm vm').setFrames (.throwing q :: below), ?_, .threw q, X'.here.running, hend, Or.inr ⟨q, rfl, E, ce, locs, hx _ hT (X'.ends _).1.alike, hcell9, hv, hcl, (X'.ends _).1, (X'.ends _).2.mono hc hs, hf⟩⟩
  rw [X.pushThrowing_eq]
  exact st
/-- a thing of a world lies in the heap -/
theorem vx_lt {D : va_G} {cl : List vw_C} {ws : va_W} {H1 : Heap} (h : va_P D cl ws H1) {k : Nat} {q : Nat × va_E} (hk : ws[k]? = some q) : q.1 < H1.size := (h k q hk).lt
end VXS
/-! ===== END ===== -/
/-! ===== BEGIN methods with a table of their own: called by a name, returning or throwing ===== -/
section VXH
/-! vx_backW, vx_callVX, vx_callSX, vx_callVW, vx_runVW, vx_runVX, vx_runSX, vx_ofWH follow the same proofs as their sisters above (Free/Laws.lean, Shelf42/LK1.lean); vx_outP calls Shelf42/NT130.lean (outThrough). -/
section
variable {l : Launch} {R : Room} {p : Program} {e : Env} {below : List Frame} {s : State} {sargs : Array Value} {y : MethodName} {len W9 : Nat}
theorem vx_backW {ws : List Cond} {rm : Room} {Pc : Array Value → State → Prop} {Qc : Array Value → State → Outcome → State → Prop} {XC : String → State → State → Prop} {mc ms : Nat} {free : Addr → Prop} {bytes : ByteArray} {maxL : Nat} {ret : Option FieldType} {hh : List (Nat × Nat × Nat × Nat)}
    (hM : vx_Met l y ws rm Pc Qc XC mc ms free) (hblind : FrameBlind Pc) (hrc : rm.cells = mc) (hrs : rm.slots = ms)
    (hframes : rm.frames + 1 ≤ R.frames) (hlocals : W9 + (maxL + 11) + rm.locals ≤ R.locals)
    (hws : ∀ w ∈ ws, ∀ a' U, s.WarmedH U.vm → w.before a' U = true) (hcode : Cond.codeWith y bytes maxL ret hh ∈ ws) (hinit : ∀ a' U, s.WarmedH U.vm → (Cond.initialized y.cls).before a' U = true) :
    vx_Back l R p e below s sargs y len W9 (PreOf R mc ms Pc) (PostOf Qc mc ms free) (vx_Post XC mc ms free) := by
  intro m meth c A g ig mk a X hg hsize hdg hW hn hp
  have h1 : (headSpec ws rm).pre.before a A.U = true := atoms_intro fun w hw => hws w hw _ _ X.warmed
  have h2 : (Cond.codeWith y bytes maxL ret hh).before a A.U = true := hws _ hcode _ _ X.warmed
  have h3 : (Cond.initialized y.cls).before a A.U = true := hinit _ _ X.warmed
  have h4 : A.cells + (headSpec ws rm).room.cells ≤ R.cells := by rw [show (headSpec ws rm).room.cells = mc from hrc]; exact hp.1
  have h5 : A.slots + (headSpec ws rm).room.slots ≤ R.slots := by rw [show (headSpec ws rm).room.slots = ms from hrs]; exact hp.2.1
  have hPc : Pc a (A.U.calling g mk a) := hblind _ _ _ _ hp.2.2
  obtain ⟨U, Ls, c0, s0⟩ := A
  dsimp only [Pt.U, Pt.locs, Pt.cells, Pt.slots] at h1 h2 h3 h4 h5 X hn hPc ⊢
  obtain ⟨m9, methY, cY, hn9, hmY, hcY, -, hlY, -⟩ := Cond.codeWith_spec h2
  cases Option.some.inj (hn9.symm.trans hn)
  obtain ⟨kY, hkY, -⟩ := className_of_methodNamed hn
  have hinitY : kY.init = .initialized := Cond.initialized_spec (findClass_of_methodNamed hn) hkY h3
  have h : At U g.method c below := by rw [hg]; exact X.here
  have hlocals9 : W9 + (maxL + 11) + (headSpec ws rm).room.locals ≤ R.locals := hlocals
  have happ : (headSpec ws rm).appliesLoose y e.platform (U.calling g mk a) = true :=
    Spec.appliesLoose_calling (g := g) h hdg hn hkY hinitY
      (X.room_calling (g := g) (R' := (headSpec ws rm).room) hsize hmY hcY hframes (by rw [hlY]; omega) h4 h5) h1
  obtain ⟨mid, hmid⟩ := h.above
  have hfr : (U.setTop g).frames = (.java g :: mid) ++ below := by rw [State.frames_setTop' g h.top, hmid]; rfl
  obtain ⟨o, s₂, hsteps, -, hend, hq⟩ := Steps.callFree hM p X.admits X.cas X.clock (acts := []) hfr happ hPc trivial
  have hq' : vx_Q Qc XC mc ms free a (U.calling g mk a) o s₂ := hq
  rw [State.frames_setTop' g h.top] at hend
  obtain ⟨g₀, hg0⟩ := Option.isSome_iff_exists.mp h.top
  obtain ⟨r, hr⟩ := State.topJava?_eq_some.mp hg0
  have hr' : (({ U with heap := s₂.heap, slotsUsed := s₂.slotsUsed } : State).setVm s₂.vm).frames = .java g₀ :: r := hr
  rcases hq' with ⟨hqc, L, hfe, hL⟩ | ⟨q, rfl, E, ce, L, hx, hce, hcv, hcl, hW₂, hsm, hL⟩
  · obtain ⟨⟨v, rfl⟩, hW₂, e2, q2, q3, q4, q5, q6⟩ := id hfe
    have e3 : s₂ = ({ (U.calling g mk a).setFrames s₂.frames with heap := s₂.heap, slotsUsed := s₂.slotsUsed } : State).setVm s₂.vm := by
      have : s₂ = ({ s₂ with vm := (U.calling g mk a).vm } : State).setVm s₂.vm := rfl
      rw [e2] at this
      exact this
    obtain ⟨c₂, i₂, len₂, hc₂, hd₂, hf₂⟩ := hend
    have hW' : U.WarmedH s₂.vm := hW₂
    have hcc : c₂ = c := by
      have h1 : s₂.code? g.method = U.code? g.method := by
        rw [State.code?_eq, State.code?_eq, hW'.alike.method?]
      exact Option.some.inj (hc₂.symm.trans (h1.trans h.code))
    subst hcc
    have hlen : len₂ = len := by rw [hdg] at hd₂; cases hd₂; rfl
    subst hlen
    have hs₂ : s₂ = (({ U with heap := s₂.heap, slotsUsed := s₂.slotsUsed } : State).setVm s₂.vm).setTop { g with pc := g.pc + len₂, stack := v.toList ++ g.stack } := by
      refine e3.trans ?_
      rw [hf₂, State.calling_eq h.top, State.setFrames_setFrames, State.setTop_of_frames _ hr', hr]
      rfl
    have hsame : U.sameButNew ({ U with heap := s₂.heap, slotsUsed := s₂.slotsUsed } : State) L mc ms := by
      refine ⟨?_, q2, q3, q4, q5, q6⟩
      obtain ⟨t, ht, -⟩ := State.frames_cons hr
      show ({ U with heap := s₂.heap, slotsUsed := s₂.slotsUsed } : State) = { U.setFrames U.frames with heap := s₂.heap, slotsUsed := s₂.slotsUsed }
      rw [State.setFrames_self ht]
    subst hg
    refine Or.inl ⟨v, ⟨(({ U with heap := s₂.heap, slotsUsed := s₂.slotsUsed } : State).setVm s₂.vm), Ls ++ L, c0 + mc, s0 + ms⟩,
      ⟨X.admits, X.cas, X.clock, X.frames, X.room, X.hears, X.method, X.code, (X.here.setHeapUsed s₂.heap s₂.slotsUsed).setVm hW'.alike, X.tail, State.WarmedH.trans X.warmed hW', X.limits, X.bytes, X.same.trans (hsame.setVm s.vm)⟩,
      ⟨g, mk, s₂, L, rfl, rfl, hqc, rfl, hL, rfl, rfl⟩, ?_⟩
    show Steps p.tables e below _ ((({ U with heap := s₂.heap, slotsUsed := s₂.slotsUsed } : State).setVm s₂.vm).setTop { g with pc := g.pc + len₂, stack := v.toList ++ g.stack })
    rw [← hs₂]
    exact hsteps
  · obtain ⟨e2, q2, q3, q4, q5, q6⟩ := id hsm
    have e3 : s₂ = ({ (U.calling g mk a).setFrames s₂.frames with heap := s₂.heap, slotsUsed := s₂.slotsUsed } : State).setVm s₂.vm := by
      have : s₂ = ({ s₂ with vm := (U.calling g mk a).vm } : State).setVm s₂.vm := rfl
      rw [e2] at this
      exact this
    have hf₂ : s₂.frames = .throwing q :: .java g :: U.frames.tail := hend
    have hW' : U.WarmedH s₂.vm := hW₂
    have hs₂ : s₂ = ((({ U with heap := s₂.heap, slotsUsed := s₂.slotsUsed } : State).setVm s₂.vm).setTop g).pushFrame (.throwing q) := by
      refine e3.trans ?_
      rw [hf₂, State.calling_eq h.top, State.setFrames_setFrames, State.pushFrame, State.frames_setTop _ hr', State.setTop_of_frames _ hr', State.setFrames_setFrames, hr]
      rfl
    have hsame : U.sameButNew ({ U with heap := s₂.heap, slotsUsed := s₂.slotsUsed } : State) L mc ms := by
      refine ⟨?_, q2, q3, q4, q5, q6⟩
      obtain ⟨t, ht, -⟩ := State.frames_cons hr
      show ({ U with heap := s₂.heap, slotsUsed := s₂.slotsUsed } : State) = { U.setFrames U.frames with heap := s₂.heap, slotsUsed := s₂.slotsUsed }
      rw [State.setFrames_self ht]
    subst hg
    refine Or.inr ⟨q, ⟨(({ U with heap := s₂.heap, slotsUsed := s₂.slotsUsed } : State).setVm s₂.vm), Ls ++ L, c0 + mc, s0 + ms⟩,
      ⟨X.admits, X.cas, X.clock, X.frames, X.room, X.hears, X.method, X.code, (X.here.setHeapUsed s₂.heap s₂.slotsUsed).setVm hW'.alike, X.tail, State.WarmedH.trans X.warmed hW', X.limits, X.bytes, X.same.trans (hsame.setVm s.vm)⟩,
      ⟨g, mk, s₂, L, E, ce, rfl, rfl, hx, hce, hcv, hcl, rfl, hL, rfl, rfl⟩, ?_⟩
    show Steps p.tables e below _ (((({ U with heap := s₂.heap, slotsUsed := s₂.slotsUsed } : State).setVm s₂.vm).setTop g).pushFrame (.throwing q))
    rw [← hs₂]
    exact hsteps
end
variable {p : Program} {l : Launch} {e : Env} {R : Room} {s : State} {m : MethodId} {args : Array Value} {below : List Frame} {meth : Method} {c : Code} {T : State} {H : Heap} {locs : List Loc} {cells slots : Nat}
theorem vx_callVX (X : Stand p l e R s m args below meth c T locs cells slots) (hexec : p.tables.exec = Jvm.exec) {own C : String} {index : Nat} {y : MethodName} {bytes : ByteArray} {maxL : Nat} {ret : Option FieldType} {hh : List (Nat × Nat × Nat × Nat)}
    (hown : s.vm.findClass own = some m.cls) (hlink : (Cond.methodLink own index y).before args s = true) (hinst : (Cond.instanceMethod y).before args s = true) (hsel : (Cond.selects C y y).before args s = true)
    (hcode : (Cond.codeWith y bytes maxL ret hh).before args s = true) (hy : y.cls ≠ "java/lang/invoke/MethodHandle" ∧ y.cls ≠ "java/lang/invoke/VarHandle")
    {W9 : Nat} {Pre : Pt → Array Value → Prop} {Post : Pt → Array Value → Option Value → Pt → Prop} {PostX : Pt → Array Value → Addr → Pt → Prop} (hK : vx_Back l R p e below s args y 3 W9 Pre Post PostX)
    {b : Addr} {cellB : Cell} (hcell : T.heap[b]? = some cellB) (hobj : cellB.vm.isStatics = false) (hcls : s.vm.findClass C = some cellB.cls)
    {g : JFrame} (hg : g.method = m) (hsize : g.locals.size = c.maxLocals) {argsL rest : List Value} (hlen : ∀ sig, parseMethodDescriptor y.desc = some sig → argsL.length = sig.parameters.length)
    (hstack : g.stack = argsL.reverse ++ .ref b :: rest) (hW : 2 * g.monitorRoom + (rest.map fun v => v.category).sum ≤ W9) (hdg : decode c.code g.pc = .ok (.invokevirtual index, 3))
    (hpre : ∀ vm₁, s.WarmedH vm₁ → Pre ⟨T.setVm vm₁, locs, cells, slots⟩ (Value.ref b :: argsL).toArray) :
    (∃ (v : Option Value) (vm₁ : Vm) (B : Pt), s.WarmedH vm₁ ∧ Stand p l e R s m args below meth c B.U B.locs B.cells B.slots ∧ Post ⟨T.setVm vm₁, locs, cells, slots⟩ (Value.ref b :: argsL).toArray v B ∧
      ∀ target, Steps p.tables e below (B.U.setTop { g with pc := g.pc + 3, stack := v.toList ++ rest }) target → Steps p.tables e below (T.setTop g) target) ∨
    (∃ (q : Addr) (vm₁ : Vm) (B : Pt), s.WarmedH vm₁ ∧ Stand p l e R s m args below meth c B.U B.locs B.cells B.slots ∧ PostX ⟨T.setVm vm₁, locs, cells, slots⟩ (Value.ref b :: argsL).toArray q B ∧
      Steps p.tables e below (T.setTop g) ((B.U.setTop { g with stack := rest }).pushFrame (.throwing q))) := by
  obtain ⟨mk, methM, hnamed, hmethM, hstM, habM⟩ := Cond.instanceMethod_spec hinst
  obtain ⟨m8, methM', cM, hn8, hmethM', -, -, -, -, -, -, hsigM⟩ := Cond.codeWith_spec hcode
  cases Option.some.inj (hn8.symm.trans hnamed)
  cases hmethM.symm.trans hmethM'
  obtain ⟨c2, r2, m2, q1, q2, q3, q4, kP, hkP, hkPi⟩ := Cond.selects_spec hsel
  cases hcls.symm.trans q1
  cases (State.methodFound?_of_named hnamed hy).symm.trans q2
  cases hnamed.symm.trans q3
  have hselP : selectMethod e.platform s.vm cellB.cls mk = .method mk := by rw [Launch.admits_selectMethod X.admits]; exact q4
  obtain ⟨vm₁, X₁, hstep₁⟩ := X.invokevirtual hexec hown hlink hnamed hmethM hstM hkP hkPi hy (a := b) (cell := cellB) hcell
    (fun z h => by rw [h] at hobj; cases hobj) hselP hmethM habM hkP hkPi (g := g) hg (argsL := argsL) (rest := rest) (hlen _ hsigM) hstack hdg
  rcases hK m meth c ⟨T.setVm vm₁, locs, cells, slots⟩ { g with stack := rest } (.invokevirtual index) mk (Value.ref b :: argsL).toArray X₁ hg hsize hdg hW (X₁.named hnamed) (hpre vm₁ X₁.warmed) with ⟨v, B, X', hpost, hsteps⟩ | ⟨q, B, X', hpost, hsteps⟩
  · exact Or.inl ⟨v, vm₁, B, X₁.warmed, X', hpost, fun target h => hstep₁ _ fun acts => by rw [doInvoke_state]; exact hsteps.trans h⟩
  · exact Or.inr ⟨q, vm₁, B, X₁.warmed, X', hpost, hstep₁ _ fun acts => by rw [doInvoke_state]; exact hsteps⟩
theorem vx_callSX (X : Stand p l e R s m args below meth c T locs cells slots) (hexec : p.tables.exec = Jvm.exec) {own : String} {index : Nat} {y : MethodName} {bytes : ByteArray} {maxL : Nat} {ret : Option FieldType} {hh : List (Nat × Nat × Nat × Nat)}
    (hown : s.vm.findClass own = some m.cls) (hlink : (Cond.methodLink own index y).before args s = true) (hstat : (Cond.static y).before args s = true) (hinit : (Cond.initialized y.cls).before args s = true)
    (hcode : (Cond.codeWith y bytes maxL ret hh).before args s = true) (hy : y.cls ≠ "java/lang/invoke/MethodHandle" ∧ y.cls ≠ "java/lang/invoke/VarHandle")
    {W9 : Nat} {Pre : Pt → Array Value → Prop} {Post : Pt → Array Value → Option Value → Pt → Prop} {PostX : Pt → Array Value → Addr → Pt → Prop} (hK : vx_Back l R p e below s args y 3 W9 Pre Post PostX)
    {g : JFrame} (hg : g.method = m) (hsize : g.locals.size = c.maxLocals) {argsL rest : List Value} (hlen : ∀ sig, parseMethodDescriptor y.desc = some sig → argsL.length = sig.parameters.length)
    (hstack : g.stack = argsL.reverse ++ rest) (hW : 2 * g.monitorRoom + (rest.map fun v => v.category).sum ≤ W9) (hdg : decode c.code g.pc = .ok (.invokestatic index, 3))
    (hpre : ∀ vm₁, s.WarmedH vm₁ → Pre ⟨T.setVm vm₁, locs, cells, slots⟩ argsL.toArray) :
    (∃ (v : Option Value) (vm₁ : Vm) (B : Pt), s.WarmedH vm₁ ∧ Stand p l e R s m args below meth c B.U B.locs B.cells B.slots ∧ Post ⟨T.setVm vm₁, locs, cells, slots⟩ argsL.toArray v B ∧
      ∀ target, Steps p.tables e below (B.U.setTop { g with pc := g.pc + 3, stack := v.toList ++ rest }) target → Steps p.tables e below (T.setTop g) target) ∨
    (∃ (q : Addr) (vm₁ : Vm) (B : Pt), s.WarmedH vm₁ ∧ Stand p l e R s m args below meth c B.U B.locs B.cells B.slots ∧ PostX ⟨T.setVm vm₁, locs, cells, slots⟩ argsL.toArray q B ∧
      Steps p.tables e below (T.setTop g) ((B.U.setTop { g with stack := rest }).pushFrame (.throwing q))) := by
  obtain ⟨mk, methM, cM, hnamed, hmethM, -, -, -, -, -, -, hsigM⟩ := Cond.codeWith_spec hcode
  have hstatic : methM.isStatic = true := Cond.static_spec hnamed hmethM hstat
  obtain ⟨kP, hkP, -⟩ := className_of_methodNamed hnamed
  have hinitP : kP.init = .initialized := Cond.initialized_spec (findClass_of_methodNamed hnamed) hkP hinit
  obtain ⟨vm₁, X₁, hstep₁⟩ := X.invokestatic hexec hown hlink hnamed hmethM hstatic hkP hinitP hy (g := g) hg (argsL := argsL) (rest := rest) (hlen _ hsigM) hstack hdg
  rcases hK m meth c ⟨T.setVm vm₁, locs, cells, slots⟩ { g with stack := rest } (.invokestatic index) mk argsL.toArray X₁ hg hsize hdg hW (X₁.named hnamed) (hpre vm₁ X₁.warmed) with ⟨v, B, X', hpost, hsteps⟩ | ⟨q, B, X', hpost, hsteps⟩
  · exact Or.inl ⟨v, vm₁, B, X₁.warmed, X', hpost, fun target h => hstep₁ _ fun acts => by rw [doInvoke_state]; exact hsteps.trans h⟩
  · exact Or.inr ⟨q, vm₁, B, X₁.warmed, X', hpost, hstep₁ _ fun acts => by rw [doInvoke_state]; exact hsteps⟩
theorem vx_callVW (X : Stand p l e R s m args below meth c T locs cells slots) (hexec : p.tables.exec = Jvm.exec) {own C : String} {index : Nat} {y : MethodName} {bytes : ByteArray} {maxL : Nat} {ret : Option FieldType} {hh : List (Nat × Nat × Nat × Nat)}
    (hown : s.vm.findClass own = some m.cls) (hlink : (Cond.methodLink own index y).before args s = true) (hinst : (Cond.instanceMethod y).before args s = true) (hsel : (Cond.selects C y y).before args s = true)
    (hcode : (Cond.codeWith y bytes maxL ret hh).before args s = true) (hy : y.cls ≠ "java/lang/invoke/MethodHandle" ∧ y.cls ≠ "java/lang/invoke/VarHandle")
    {W9 : Nat} {Pre : Pt → Array Value → Prop} {Post : Pt → Array Value → Option Value → Pt → Prop} (hK : Back l R p e below s args y 3 W9 Pre Post)
    {b : Addr} {cellB : Cell} (hcell : T.heap[b]? = some cellB) (hobj : cellB.vm.isStatics = false) (hcls : s.vm.findClass C = some cellB.cls)
    {g : JFrame} (hg : g.method = m) (hsize : g.locals.size = c.maxLocals) {argsL rest : List Value} (hlen : ∀ sig, parseMethodDescriptor y.desc = some sig → argsL.length = sig.parameters.length)
    (hstack : g.stack = argsL.reverse ++ .ref b :: rest) (hW : 2 * g.monitorRoom + (rest.map fun v => v.category).sum ≤ W9) (hdg : decode c.code g.pc = .ok (.invokevirtual index, 3))
    (hpre : ∀ vm₁, s.WarmedH vm₁ → Pre ⟨T.setVm vm₁, locs, cells, slots⟩ (Value.ref b :: argsL).toArray) :
    ∃ (v : Option Value) (vm₁ : Vm) (B : Pt), s.WarmedH vm₁ ∧ Stand p l e R s m args below meth c B.U B.locs B.cells B.slots ∧ Post ⟨T.setVm vm₁, locs, cells, slots⟩ (Value.ref b :: argsL).toArray v B ∧
      ∀ target, Steps p.tables e below (B.U.setTop { g with pc := g.pc + 3, stack := v.toList ++ rest }) target → Steps p.tables e below (T.setTop g) target := by
  obtain ⟨mk, methM, hnamed, hmethM, hstM, habM⟩ := Cond.instanceMethod_spec hinst
  obtain ⟨m8, methM', cM, hn8, hmethM', -, -, -, -, -, -, hsigM⟩ := Cond.codeWith_spec hcode
  cases Option.some.inj (hn8.symm.trans hnamed)
  cases hmethM.symm.trans hmethM'
  obtain ⟨c2, r2, m2, q1, q2, q3, q4, kP, hkP, hkPi⟩ := Cond.selects_spec hsel
  cases hcls.symm.trans q1
  cases (State.methodFound?_of_named hnamed hy).symm.trans q2
  cases hnamed.symm.trans q3
  have hselP : selectMethod e.platform s.vm cellB.cls mk = .method mk := by rw [Launch.admits_selectMethod X.admits]; exact q4
  obtain ⟨vm₁, X₁, hstep₁⟩ := X.invokevirtual hexec hown hlink hnamed hmethM hstM hkP hkPi hy (a := b) (cell := cellB) hcell
    (fun z h => by rw [h] at hobj; cases hobj) hselP hmethM habM hkP hkPi (g := g) hg (argsL := argsL) (rest := rest) (hlen _ hsigM) hstack hdg
  obtain ⟨v, B, X', hpost, hsteps⟩ := hK m meth c ⟨T.setVm vm₁, locs, cells, slots⟩ { g with stack := rest } (.invokevirtual index) mk (Value.ref b :: argsL).toArray X₁ hg hsize hdg hW (X₁.named hnamed) (hpre vm₁ X₁.warmed)
  exact ⟨v, vm₁, B, X₁.warmed, X', hpost, fun target h => hstep₁ _ fun acts => by rw [doInvoke_state]; exact hsteps.trans h⟩
abbrev vx_CVW (R : Room) (s : State) (args : Array Value) (own C : String) (index : Nat) (y : MethodName) (bytes : ByteArray) (maxL : Nat) (ret : Option FieldType) (hh : List (Nat × Nat × Nat × Nat)) (ws : List Cond) (rm : Room) (mc ms n : Nat) : Prop :=
  (rm.cells = mc ∧ rm.slots = ms ∧ rm.frames + 1 ≤ R.frames ∧ 8 + (maxL + 11) + rm.locals ≤ R.locals ∧ (∀ w ∈ ws, ∀ (a' : Array Value) (U : State), s.WarmedH U.vm → w.before a' U = true) ∧ Cond.codeWith y bytes maxL ret hh ∈ ws) ∧
  (Cond.codeWith y bytes maxL ret hh).before args s = true ∧ (Cond.initialized y.cls).before args s = true ∧ (y.cls ≠ "java/lang/invoke/MethodHandle" ∧ y.cls ≠ "java/lang/invoke/VarHandle") ∧
  (∀ sig, parseMethodDescriptor y.desc = some sig → n = sig.parameters.length) ∧ (Cond.methodLink own index y).before args s = true ∧ (Cond.instanceMethod y).before args s = true ∧ (Cond.selects C y y).before args s = true
theorem vx_cwVW {own C : String} {index maxL mc ms : Nat} {y : MethodName} {bytes : ByteArray} {ret : Option FieldType} {hh : List (Nat × Nat × Nat × Nat)} {Ts ws ws' : List Cond} {rm : Room} (n : Nat) (ht : ∀ w ∈ Ts, w.before args s = true) (hT : GoodIn Ts (wsV own index C y ws)) (hw : ws = Cond.codeWith y bytes maxL ret hh :: ws') (hrc : rm.cells = mc) (hrs : rm.slots = ms)
    (hd : y.cls = C ∧ y.cls ≠ "java/lang/invoke/MethodHandle" ∧ y.cls ≠ "java/lang/invoke/VarHandle" ∧ (parseMethodDescriptor y.desc).map (fun d => d.parameters.length) = some n) (hR : rm.frames + 1 ≤ R.frames ∧ 8 + (maxL + 11) + rm.locals ≤ R.locals) :
    vx_CVW R s args own C index y bytes maxL ret hh ws rm mc ms n := by
  obtain ⟨hC, hd⟩ := hd
  subst hC
  have ok : ∀ w ∈ wsV own index y.cls y ws, w.before args s = true := fun w h => ht w (hT w h).1
  have hG : GoodIn Ts ws := fun w h => hT w (by unfold wsV; exact List.mem_append_right _ h)
  have hc : Cond.codeWith y bytes maxL ret hh ∈ ws := by rw [hw]; exact List.mem_cons_self
  refine ⟨⟨hrc, hrs, hR.1, hR.2, pay_in ht hG, hc⟩, ht _ (hG _ hc).1, ok _ (by simp [wsV]), ⟨hd.1, hd.2.1⟩, fun sig h => ?_, ok _ (by simp [wsV]), ok _ (by simp [wsV]), ok _ (by simp [wsV])⟩
  have h2 := hd.2.2
  rw [h] at h2
  exact (Option.some.inj h2).symm
theorem vx_runVW {y : MethodName} {bytes cc : ByteArray} {maxL nL mc ms n index : Nat} {ret : Option FieldType} {hh : List (Nat × Nat × Nat × Nat)} {ws : List Cond} {rm : Room} {Pc : Array Value → State → Prop} {Qc : Array Value → State → Outcome → State → Prop} {free : Addr → Prop} {Ts : List Cond} {own C : String} {b : Addr} {As rest : List Value} {g : JFrame}
    (S : CallFix p m c cc nL s args Ts own) (hM : Met l y ws rm Pc Qc mc ms free) (cw : vx_CVW R s args own C index y bytes maxL ret hh ws rm mc ms n) (hp : PreV s H C b Pc As)
    (hg : g.method = m) (hn : As.length = n) (hsize : g.locals.size = nL) (hstack : g.stack = As.reverse ++ .ref b :: rest) (hW : 2 * g.monitorRoom + (rest.map fun v => v.category).sum ≤ 8) (hdg : decode cc g.pc = .ok (.invokevirtual index, 3)) (hf : cells + mc ≤ R.cells ∧ slots + ms ≤ R.slots) :
    va_Run p l e R s m args below meth c H locs cells slots mc ms g rest (Qc (Value.ref b :: As).toArray) free := by
  obtain ⟨⟨hrc, hrs, hfr, hlo, hws, hcw⟩, hcode, hini, hy, hlen, hl, hin, hse⟩ := cw
  have hK : Back l R p e below s args y 3 8 (PreOf R mc ms Pc) (PostOf Qc mc ms free) := va_backW (hh := hh) (bytes := bytes) (maxL := maxL) (ret := ret) hM hp.1 hrc hrs hfr hlo hws hcw (fun a' U hW => word_at hW (Or.inl (by first | rfl | simp [Cond.onTables, Cond.keeps, Cond.steady])) hini)
  obtain ⟨hx, hb, hml, ho, -⟩ := S
  obtain ⟨-, ⟨cellB, hcB, hoB, hclB⟩, hPc⟩ := hp
  intro T hT X
  obtain ⟨v, vm₁, ⟨U', l2, c2, s2⟩, hW₁, X', ⟨g', mk, t, L, e1, e2, hq, h1, hL, h2, h3⟩, st⟩ := vx_callVW X hx (C := C) (hh := hh) (bytes := bytes) (maxL := maxL) (ret := ret) ho hl hin hse hcode hy hK (by rw [hT]; exact hcB) hoB hclB hg (hsize.trans hml.symm) (argsL := As) (rest := rest) (fun sig h => hn.trans (hlen sig h)) hstack hW (by rw [hb]; exact hdg)
    (fun vm₁ hW₁ => ⟨hf.1, hf.2, hPc (T.setVm vm₁) hT hW₁⟩)
  dsimp only [Pt.U, Pt.locs, Pt.cells, Pt.slots] at X' e1 e2 h1 h2 h3 st
  subst h1; subst h2; subst h3
  exact ⟨v, (T.setVm vm₁).calling g' mk (Value.ref b :: As).toArray, t, U', L, hT, X', hL, e1, e2, hq, st⟩
section
variable {y : MethodName} {bytes cc : ByteArray} {maxL nL mc ms n index : Nat} {ret : Option FieldType} {ws : List Cond} {rm : Room} {Pc : Array Value → State → Prop} {Qc : Array Value → State → Outcome → State → Prop} {XC : String → State → State → Prop} {free : Addr → Prop} {Ts : List Cond} {own C : String} {b : Addr} {As rest : List Value} {g : JFrame}
theorem vx_runVX {hh : List (Nat × Nat × Nat × Nat)} (S : CallFix p m c cc nL s args Ts own) (hM : vx_Met l y ws rm Pc Qc XC mc ms free) (cw : vx_CVW R s args own C index y bytes maxL ret hh ws rm mc ms n) (hp : PreV s H C b Pc As)
    (hg : g.method = m) (hn : As.length = n) (hsize : g.locals.size = nL) (hstack : g.stack = As.reverse ++ .ref b :: rest) (hW : 2 * g.monitorRoom + (rest.map fun v => v.category).sum ≤ 8) (hdg : decode cc g.pc = .ok (.invokevirtual index, 3)) (hf : cells + mc ≤ R.cells ∧ slots + ms ≤ R.slots) :
    vx_Run p l e R s m args below meth c H locs cells slots mc ms g rest (Qc (Value.ref b :: As).toArray) XC free := by
  obtain ⟨⟨hrc, hrs, hfr, hlo, hws, hcw⟩, hcode, hini, hy, hlen, hl, hin, hse⟩ := cw
  have hK : vx_Back l R p e below s args y 3 8 (PreOf R mc ms Pc) (PostOf Qc mc ms free) (vx_Post XC mc ms free) := vx_backW (hh := hh) (bytes := bytes) (maxL := maxL) (ret := ret) hM hp.1 hrc hrs hfr hlo hws hcw (fun a' U hW => word_at hW (Or.inl (by first | rfl | simp [Cond.onTables, Cond.keeps, Cond.steady])) hini)
  obtain ⟨hx, hb, hml, ho, -⟩ := S
  obtain ⟨-, ⟨cellB, hcB, hoB, hclB⟩, hPc⟩ := hp
  intro T hT X
  rcases vx_callVX X hx (C := C) (hh := hh) (bytes := bytes) (maxL := maxL) (ret := ret) ho hl hin hse hcode hy hK (by rw [hT]; exact hcB) hoB hclB hg (hsize.trans hml.symm) (argsL := As) (rest := rest) (fun sig h => hn.trans (hlen sig h)) hstack hW (by rw [hb]; exact hdg)
    (fun vm₁ hW₁ => ⟨hf.1, hf.2, hPc (T.setVm vm₁) hT hW₁⟩) with ⟨v, vm₁, ⟨U', l2, c2, s2⟩, hW₁, X', ⟨g', mk, t, L, e1, e2, hq, h1, hL, h2, h3⟩, st⟩ | ⟨q, vm₁, ⟨U', l2, c2, s2⟩, hW₁, X', ⟨g', mk, t, L, E, ce, e1, e2, hq, hce, hcv, hcl, h1, hL, h2, h3⟩, st⟩
  · dsimp only [Pt.U, Pt.locs, Pt.cells, Pt.slots] at X' e1 e2 h1 h2 h3 st
    subst h1; subst h2; subst h3
    exact Or.inl ⟨v, (T.setVm vm₁).calling g' mk (Value.ref b :: As).toArray, t, U', L, hT, X', hL, e1, e2, hq, st⟩
  · dsimp only [Pt.U, Pt.locs, Pt.cells, Pt.slots] at X' e1 e2 h1 h2 h3 st hcl
    subst h1; subst h2; subst h3
    exact Or.inr ⟨q, (T.setVm vm₁).calling g' mk (Value.ref b :: As).toArray, t, U', L, E, ce, hT, X', hL, e1, e2, hq, hce, hcv, vx_cls hW₁ hcl, st⟩
theorem vx_runSX {hh : List (Nat × Nat × Nat × Nat)} (S : CallFix p m c cc nL s args Ts own) (hM : vx_Met l y ws rm Pc Qc XC mc ms free) (cw : vx_CSW R s args own index y bytes maxL ret hh ws rm mc ms n) (hp : PreS s H Pc As)
    (hg : g.method = m) (hn : As.length = n) (hsize : g.locals.size = nL) (hstack : g.stack = As.reverse ++ rest) (hW : 2 * g.monitorRoom + (rest.map fun v => v.category).sum ≤ 8) (hdg : decode cc g.pc = .ok (.invokestatic index, 3)) (hf : cells + mc ≤ R.cells ∧ slots + ms ≤ R.slots) :
    vx_Run p l e R s m args below meth c H locs cells slots mc ms g rest (Qc As.toArray) XC free := by
  obtain ⟨⟨hrc, hrs, hfr, hlo, hws, hcw⟩, hcode, hini, hy, hlen, hl, hstt⟩ := cw
  have hK : vx_Back l R p e below s args y 3 8 (PreOf R mc ms Pc) (PostOf Qc mc ms free) (vx_Post XC mc ms free) := vx_backW (hh := hh) (bytes := bytes) (maxL := maxL) (ret := ret) hM hp.1 hrc hrs hfr hlo hws hcw (fun a' U hW => word_at hW (Or.inl (by first | rfl | simp [Cond.onTables, Cond.keeps, Cond.steady])) hini)
  obtain ⟨hx, hb, hml, ho, -⟩ := S
  intro T hT X
  rcases vx_callSX X hx (hh := hh) (bytes := bytes) (maxL := maxL) (ret := ret) ho hl hstt hini hcode hy hK hg (hsize.trans hml.symm) (argsL := As) (rest := rest) (fun sig h => hn.trans (hlen sig h)) hstack hW (by rw [hb]; exact hdg)
    (fun vm₁ hW₁ => ⟨hf.1, hf.2, hp.2 (T.setVm vm₁) hT hW₁⟩) with ⟨v, vm₁, ⟨U', l2, c2, s2⟩, hW₁, X', ⟨g', mk, t, L, e1, e2, hq, h1, hL, h2, h3⟩, st⟩ | ⟨q, vm₁, ⟨U', l2, c2, s2⟩, hW₁, X', ⟨g', mk, t, L, E, ce, e1, e2, hq, hce, hcv, hcl, h1, hL, h2, h3⟩, st⟩
  · dsimp only [Pt.U, Pt.locs, Pt.cells, Pt.slots] at X' e1 e2 h1 h2 h3 st
    subst h1; subst h2; subst h3
    exact Or.inl ⟨v, (T.setVm vm₁).calling g' mk As.toArray, t, U', L, hT, X', hL, e1, e2, hq, st⟩
  · dsimp only [Pt.U, Pt.locs, Pt.cells, Pt.slots] at X' e1 e2 h1 h2 h3 st hcl
    subst h1; subst h2; subst h3
    exact Or.inr ⟨q, (T.setVm vm₁).calling g' mk As.toArray, t, U', L, E, ce, hT, X', hL, e1, e2, hq, hce, hcv, vx_cls hW₁ hcl, st⟩
end
end VXH
theorem vx_ofWH {l : Launch} {y : MethodName} {ws ws' : List Cond} {rm : Room} {Pc : Array Value → State → Prop} {Qc : Array Value → State → Outcome → State → Prop} {XC : String → State → State → Prop} {mc ms : Nat} {free : Addr → Prop} {cc : ByteArray} {maxL : Nat} {ret : Option FieldType} {hh : List (Nat × Nat × Nat × Nat)}
    (hy : plainName y.cls = true) (hw : ws = Cond.codeWith y cc maxL ret hh :: ws')
    (body : ∀ p e s m args below meth c s₁, BodyLoose p l y (headSpec ws rm) cc maxL ret e s m args below meth c s₁ → c.maxLocals = maxL → Pc args s →
      W p l e (headSpec ws rm).room s m args below meth c s.heap [] 0 0 (vx_MQ below Qc XC args s mc ms free) (entryFrame m args maxL)) : vx_Met l y ws rm Pc Qc XC mc ms free := by
  refine MetFree.of_bodyS (code := cc) (maxLocals := maxL) (ret := ret) hy ?_ ?_
  · intro args s m h hn
    obtain ⟨m9, meth, c, hn9, h1, h2, h3, h4, -, h5, h6, -⟩ := Cond.codeWith_spec (atoms_spec (ws := ws) h _ (by rw [hw]; exact List.mem_cons_self))
    cases hn.symm.trans hn9
    exact ⟨meth, c, h1, h2, h3, h4, h5, h6⟩
  · intro p e s m args below meth c s₁ B hml hP _
    have hh0 : s₁.heap = s.heap := by rw [B.state]; rfl
    obtain ⟨t, a1, o, b1, b2, b3⟩ := body p e s m args below meth c s₁ B hml hP s₁ hh0 (Stand.of_body B)
    exact ⟨t, o, a1, b1, b2, b3⟩
/-! ===== END ===== -/
end
section
def RX0 : String := "OfficeholdersRoll$Groupings"
def TX0 : u_T := fun k => match k with
  | 0 => ("OfficeholdersRoll$Groupings", "mentions", "LOfficeholdersRoll$Row;", true)
  | 1 => ("OfficeholdersRoll$Groupings", "pairWorths", "LOfficeholdersRoll$Row;", true)
  | 2 => ("OfficeholdersRoll$Groupings", "groupWorths", "LOfficeholdersRoll$Row;", true)
  | 3 => ("OfficeholdersRoll$Groupings", "bests", "LOfficeholdersRoll$Row;", true)
  | 4 => ("OfficeholdersRoll$Groupings", "groups", "LOfficeholdersRoll$Row;", true)
  | _ => ("OfficeholdersRoll$Groupings", "count", "I", false)
def tyX0 : Nat → FieldType := fun k => match k with
  | 0 => .object "OfficeholdersRoll$Row"
  | 1 => .object "OfficeholdersRoll$Row"
  | 2 => .object "OfficeholdersRoll$Row"
  | 3 => .object "OfficeholdersRoll$Row"
  | 4 => .object "OfficeholdersRoll$Row"
  | _ => .int
theorem nmX0 : ∀ a, a < 6 → ∀ b, b < 6 → a ≠ b → (TX0 a).2.1 ≠ (TX0 b).2.1 := by decide +kernel
theorem tyX0_ok : ∀ k, k < 6 → parseFieldDescriptor (TX0 k).2.2.1 = some (tyX0 k) := by decide +kernel
abbrev cX0_init : ByteArray := prog_2_method_1_code
def yX0_init : MethodName := ⟨RX0, "<init>", "()V"⟩
abbrev cX0_clear : ByteArray := prog_2_method_2_code
def yX0_clear : MethodName := ⟨RX0, "clear", "()V"⟩
abbrev cX0_add : ByteArray := prog_2_method_3_code
def yX0_add : MethodName := ⟨RX0, "add", "(I)V"⟩
abbrev cX0_count : ByteArray := prog_2_method_4_code
def yX0_count : MethodName := ⟨RX0, "count", "()I"⟩
abbrev cX0_mentionAt : ByteArray := prog_2_method_5_code
def yX0_mentionAt : MethodName := ⟨RX0, "mentionAt", "(I)I"⟩
abbrev cX0_putWorth : ByteArray := prog_2_method_6_code
def yX0_putWorth : MethodName := ⟨RX0, "putWorth", "(III)V"⟩
abbrev cX0_pairWorth : ByteArray := prog_2_method_7_code
def yX0_pairWorth : MethodName := ⟨RX0, "pairWorth", "(II)I"⟩
abbrev cX0_bestByParts : ByteArray := prog_2_method_8_code
def yX0_bestByParts : MethodName := ⟨RX0, "bestByParts", "()I"⟩
abbrev cX0_worthOfGroup : ByteArray := prog_2_method_9_code
def yX0_worthOfGroup : MethodName := ⟨RX0, "worthOfGroup", "(I)I"⟩
abbrev cX0_bestOfSet : ByteArray := prog_2_method_10_code
def yX0_bestOfSet : MethodName := ⟨RX0, "bestOfSet", "(I)I"⟩
abbrev cX0_bestOfAll : ByteArray := prog_2_method_11_code
def yX0_bestOfAll : MethodName := ⟨RX0, "bestOfAll", "()I"⟩
abbrev cX0_worthOfGrouping : ByteArray := prog_2_method_12_code
def yX0_worthOfGrouping : MethodName := ⟨RX0, "worthOfGrouping", "()I"⟩
abbrev cX0_goOnToNext : ByteArray := prog_2_method_13_code
def yX0_goOnToNext : MethodName := ⟨RX0, "goOnToNext", "()Z"⟩
abbrev cX0_greatestGroupBefore : ByteArray := prog_2_method_14_code
def yX0_greatestGroupBefore : MethodName := ⟨RX0, "greatestGroupBefore", "(I)I"⟩
def RX1 : String := "OfficeholdersRoll$Pairs"
def TX1 : u_T := fun k => match k with
  | _ => ("OfficeholdersRoll$Pairs", "partners", "LOfficeholdersRoll$Row;", true)
def tyX1 : Nat → FieldType := fun k => match k with
  | _ => .object "OfficeholdersRoll$Row"
theorem nmX1 : ∀ a, a < 1 → ∀ b, b < 1 → a ≠ b → (TX1 a).2.1 ≠ (TX1 b).2.1 := by decide +kernel
theorem tyX1_ok : ∀ k, k < 1 → parseFieldDescriptor (TX1 k).2.2.1 = some (tyX1 k) := by decide +kernel
abbrev cX1_init : ByteArray := prog_3_method_1_code
def yX1_init : MethodName := ⟨RX1, "<init>", "(I)V"⟩
abbrev cX1_has : ByteArray := prog_3_method_2_code
def yX1_has : MethodName := ⟨RX1, "has", "(II)Z"⟩
abbrev cX1_tell : ByteArray := prog_3_method_3_code
def yX1_tell : MethodName := ⟨RX1, "tell", "(IIZ)Z"⟩
abbrev cX1_mark : ByteArray := prog_3_method_4_code
def yX1_mark : MethodName := ⟨RX1, "mark", "(IIZ)V"⟩
def RX2 : String := "OfficeholdersRoll$Persons"
def TX2 : u_T := fun k => match k with
  | 0 => ("OfficeholdersRoll$Persons", "owners", "LOfficeholdersRoll$Row;", true)
  | 1 => ("OfficeholdersRoll$Persons", "leads", "LOfficeholdersRoll$Row;", true)
  | _ => ("OfficeholdersRoll$Persons", "made", "I", false)
def tyX2 : Nat → FieldType := fun k => match k with
  | 0 => .object "OfficeholdersRoll$Row"
  | 1 => .object "OfficeholdersRoll$Row"
  | _ => .int
theorem nmX2 : ∀ a, a < 3 → ∀ b, b < 3 → a ≠ b → (TX2 a).2.1 ≠ (TX2 b).2.1 := by decide +kernel
theorem tyX2_ok : ∀ k, k < 3 → parseFieldDescriptor (TX2 k).2.2.1 = some (tyX2 k) := by decide +kernel
abbrev cX2_init : ByteArray := prog_4_method_1_code
def yX2_init : MethodName := ⟨RX2, "<init>", "()V"⟩
abbrev cX2_made : ByteArray := prog_4_method_2_code
def yX2_made : MethodName := ⟨RX2, "made", "()I"⟩
abbrev cX2_ownerOf : ByteArray := prog_4_method_3_code
def yX2_ownerOf : MethodName := ⟨RX2, "ownerOf", "(I)I"⟩
abbrev cX2_leadOf : ByteArray := prog_4_method_4_code
def yX2_leadOf : MethodName := ⟨RX2, "leadOf", "(I)I"⟩
abbrev cX2_moveToNew : ByteArray := prog_4_method_5_code
def yX2_moveToNew : MethodName := ⟨RX2, "moveToNew", "(I)I"⟩
abbrev cX2_unite : ByteArray := prog_4_method_6_code
def yX2_unite : MethodName := ⟨RX2, "unite", "(II)I"⟩
def RX3 : String := "OfficeholdersRoll$Row"
def TX3 : u_T := fun k => match k with
  | _ => ("OfficeholdersRoll$Row", "cells", "[I", true)
def tyX3 : Nat → FieldType := fun k => match k with
  | _ => .array .int
theorem nmX3 : ∀ a, a < 1 → ∀ b, b < 1 → a ≠ b → (TX3 a).2.1 ≠ (TX3 b).2.1 := by decide +kernel
theorem tyX3_ok : ∀ k, k < 1 → parseFieldDescriptor (TX3 k).2.2.1 = some (tyX3 k) := by decide +kernel
abbrev cX3_init : ByteArray := prog_5_method_1_code
def yX3_init : MethodName := ⟨RX3, "<init>", "(I)V"⟩
abbrev cX3_at : ByteArray := prog_5_method_2_code
def yX3_at : MethodName := ⟨RX3, "at", "(I)I"⟩
abbrev cX3_put : ByteArray := prog_5_method_3_code
def yX3_put : MethodName := ⟨RX3, "put", "(II)V"⟩
abbrev cX3_fill : ByteArray := prog_5_method_4_code
def yX3_fill : MethodName := ⟨RX3, "fill", "(I)V"⟩
abbrev cX3_copyFrom : ByteArray := prog_5_method_5_code
def yX3_copyFrom : MethodName := ⟨RX3, "copyFrom", "(LOfficeholdersRoll$Row;)V"⟩
def RX4 : String := "OfficeholdersRoll$Years"
def TX4 : u_T := fun k => match k with
  | 0 => ("OfficeholdersRoll$Years", "lows", "LOfficeholdersRoll$Row;", true)
  | 1 => ("OfficeholdersRoll$Years", "highs", "LOfficeholdersRoll$Row;", true)
  | 2 => ("OfficeholdersRoll$Years", "formers", "LOfficeholdersRoll$Row;", true)
  | 3 => ("OfficeholdersRoll$Years", "latters", "LOfficeholdersRoll$Row;", true)
  | 4 => ("OfficeholdersRoll$Years", "gaps", "LOfficeholdersRoll$Row;", true)
  | 5 => ("OfficeholdersRoll$Years", "firsts", "LOfficeholdersRoll$Row;", true)
  | 6 => ("OfficeholdersRoll$Years", "lasts", "LOfficeholdersRoll$Row;", true)
  | 7 => ("OfficeholdersRoll$Years", "triedFirsts", "LOfficeholdersRoll$Row;", true)
  | 8 => ("OfficeholdersRoll$Years", "triedLasts", "LOfficeholdersRoll$Row;", true)
  | 9 => ("OfficeholdersRoll$Years", "ways", "LOfficeholdersRoll$Row;", true)
  | _ => ("OfficeholdersRoll$Years", "told", "I", false)
def tyX4 : Nat → FieldType := fun k => match k with
  | 0 => .object "OfficeholdersRoll$Row"
  | 1 => .object "OfficeholdersRoll$Row"
  | 2 => .object "OfficeholdersRoll$Row"
  | 3 => .object "OfficeholdersRoll$Row"
  | 4 => .object "OfficeholdersRoll$Row"
  | 5 => .object "OfficeholdersRoll$Row"
  | 6 => .object "OfficeholdersRoll$Row"
  | 7 => .object "OfficeholdersRoll$Row"
  | 8 => .object "OfficeholdersRoll$Row"
  | 9 => .object "OfficeholdersRoll$Row"
  | _ => .int
theorem nmX4 : ∀ a, a < 11 → ∀ b, b < 11 → a ≠ b → (TX4 a).2.1 ≠ (TX4 b).2.1 := by decide +kernel
theorem tyX4_ok : ∀ k, k < 11 → parseFieldDescriptor (TX4 k).2.2.1 = some (tyX4 k) := by decide +kernel
abbrev cX4_init : ByteArray := prog_6_method_1_code
def yX4_init : MethodName := ⟨RX4, "<init>", "()V"⟩
abbrev cX4_isFullyTold : ByteArray := prog_6_method_2_code
def yX4_isFullyTold : MethodName := ⟨RX4, "isFullyTold", "()Z"⟩
abbrev cX4_firstOf : ByteArray := prog_6_method_3_code
def yX4_firstOf : MethodName := ⟨RX4, "firstOf", "(I)I"⟩
abbrev cX4_lastOf : ByteArray := prog_6_method_4_code
def yX4_lastOf : MethodName := ⟨RX4, "lastOf", "(I)I"⟩
abbrev cX4_isCertain : ByteArray := prog_6_method_5_code
def yX4_isCertain : MethodName := ⟨RX4, "isCertain", "(I)Z"⟩
abbrev cX4_tellAhead : ByteArray := prog_6_method_6_code
def yX4_tellAhead : MethodName := ⟨RX4, "tellAhead", "(III)I"⟩
abbrev cX4_narrow : ByteArray := prog_6_method_7_code
def yX4_narrow : MethodName := ⟨RX4, "narrow", "(III)I"⟩
abbrev cX4_tryNarrow : ByteArray := prog_6_method_8_code
def yX4_tryNarrow : MethodName := ⟨RX4, "tryNarrow", "(III)I"⟩
abbrev cX4_tryDating : ByteArray := prog_6_method_9_code
def yX4_tryDating : MethodName := ⟨RX4, "tryDating", "()I"⟩
abbrev cX4_keepTried : ByteArray := prog_6_method_10_code
def yX4_keepTried : MethodName := ⟨RX4, "keepTried", "()V"⟩
abbrev cX4_comesToRest : ByteArray := prog_6_method_11_code
def yX4_comesToRest : MethodName := ⟨RX4, "comesToRest", "()Z"⟩
abbrev cX4_pushAll : ByteArray := prog_6_method_12_code
def yX4_pushAll : MethodName := ⟨RX4, "pushAll", "()Z"⟩
abbrev cX4_leavesYears : ByteArray := prog_6_method_13_code
def yX4_leavesYears : MethodName := ⟨RX4, "leavesYears", "()Z"⟩
abbrev cX4_countMoved : ByteArray := prog_6_method_14_code
def yX4_countMoved : MethodName := ⟨RX4, "countMoved", "()I"⟩
abbrev cX4_firstByWays : ByteArray := prog_6_method_15_code
def yX4_firstByWays : MethodName := ⟨RX4, "firstByWays", "(I)I"⟩
abbrev cX4_lastByWays : ByteArray := prog_6_method_16_code
def yX4_lastByWays : MethodName := ⟨RX4, "lastByWays", "(I)I"⟩
abbrev cX4_measureWays : ByteArray := prog_6_method_17_code
def yX4_measureWays : MethodName := ⟨RX4, "measureWays", "()V"⟩
abbrev cX4_lengthenAllVia : ByteArray := prog_6_method_18_code
def yX4_lengthenAllVia : MethodName := ⟨RX4, "lengthenAllVia", "(II)V"⟩
abbrev cX4_wayBetween : ByteArray := prog_6_method_19_code
def yX4_wayBetween : MethodName := ⟨RX4, "wayBetween", "(II)I"⟩
abbrev cX4_lengthen : ByteArray := prog_6_method_20_code
def yX4_lengthen : MethodName := ⟨RX4, "lengthen", "(III)V"⟩
def RX5 : String := "OfficeholdersRoll"
def TX5 : u_T := fun k => match k with
  | 0 => ("OfficeholdersRoll", "names", "LOfficeholdersRoll$Row;", true)
  | 1 => ("OfficeholdersRoll", "families", "LOfficeholdersRoll$Row;", true)
  | 2 => ("OfficeholdersRoll", "places", "LOfficeholdersRoll$Row;", true)
  | 3 => ("OfficeholdersRoll", "posts", "LOfficeholdersRoll$Row;", true)
  | 4 => ("OfficeholdersRoll", "labels", "LOfficeholdersRoll$Row;", true)
  | 5 => ("OfficeholdersRoll", "ranks", "LOfficeholdersRoll$Row;", true)
  | 6 => ("OfficeholdersRoll", "bars", "LOfficeholdersRoll$Pairs;", true)
  | 7 => ("OfficeholdersRoll", "seals", "LOfficeholdersRoll$Pairs;", true)
  | 8 => ("OfficeholdersRoll", "blocks", "LOfficeholdersRoll$Pairs;", true)
  | 9 => ("OfficeholdersRoll", "kinships", "LOfficeholdersRoll$Pairs;", true)
  | 10 => ("OfficeholdersRoll", "years", "LOfficeholdersRoll$Years;", true)
  | 11 => ("OfficeholdersRoll", "persons", "LOfficeholdersRoll$Persons;", true)
  | 12 => ("OfficeholdersRoll", "groupings", "LOfficeholdersRoll$Groupings;", true)
  | 13 => ("OfficeholdersRoll", "career", "LOfficeholdersRoll$Row;", true)
  | 14 => ("OfficeholdersRoll", "steps", "LOfficeholdersRoll$Row;", true)
  | _ => ("OfficeholdersRoll", "mentionCount", "I", false)
def tyX5 : Nat → FieldType := fun k => match k with
  | 0 => .object "OfficeholdersRoll$Row"
  | 1 => .object "OfficeholdersRoll$Row"
  | 2 => .object "OfficeholdersRoll$Row"
  | 3 => .object "OfficeholdersRoll$Row"
  | 4 => .object "OfficeholdersRoll$Row"
  | 5 => .object "OfficeholdersRoll$Row"
  | 6 => .object "OfficeholdersRoll$Pairs"
  | 7 => .object "OfficeholdersRoll$Pairs"
  | 8 => .object "OfficeholdersRoll$Pairs"
  | 9 => .object "OfficeholdersRoll$Pairs"
  | 10 => .object "OfficeholdersRoll$Years"
  | 11 => .object "OfficeholdersRoll$Persons"
  | 12 => .object "OfficeholdersRoll$Groupings"
  | 13 => .object "OfficeholdersRoll$Row"
  | 14 => .object "OfficeholdersRoll$Row"
  | _ => .int
theorem nmX5 : ∀ a, a < 16 → ∀ b, b < 16 → a ≠ b → (TX5 a).2.1 ≠ (TX5 b).2.1 := by decide +kernel
theorem tyX5_ok : ∀ k, k < 16 → parseFieldDescriptor (TX5 k).2.2.1 = some (tyX5 k) := by decide +kernel
abbrev cX5_init : ByteArray := prog_1_method_1_code
def yX5_init : MethodName := ⟨RX5, "<init>", "()V"⟩
abbrev cX5_mention : ByteArray := prog_1_method_2_code
def yX5_mention : MethodName := ⟨RX5, "mention", "(IIII)I"⟩
abbrev cX5_rank : ByteArray := prog_1_method_3_code
def yX5_rank : MethodName := ⟨RX5, "rank", "(II)I"⟩
abbrev cX5_bar : ByteArray := prog_1_method_4_code
def yX5_bar : MethodName := ⟨RX5, "bar", "(IIZ)Z"⟩
abbrev cX5_ahead : ByteArray := prog_1_method_5_code
def yX5_ahead : MethodName := ⟨RX5, "ahead", "(III)I"⟩
abbrev cX5_find : ByteArray := prog_1_method_6_code
def yX5_find : MethodName := ⟨RX5, "find", "(III)I"⟩
abbrev cX5_wouldMove : ByteArray := prog_1_method_7_code
def yX5_wouldMove : MethodName := ⟨RX5, "wouldMove", "(III)I"⟩
abbrev cX5_year : ByteArray := prog_1_method_8_code
def yX5_year : MethodName := ⟨RX5, "year", "(IZ)I"⟩
abbrev cX5_yearAnew : ByteArray := prog_1_method_9_code
def yX5_yearAnew : MethodName := ⟨RX5, "yearAnew", "(IZ)I"⟩
abbrev cX5_seal : ByteArray := prog_1_method_10_code
def yX5_seal : MethodName := ⟨RX5, "seal", "(II)Z"⟩
abbrev cX5_block : ByteArray := prog_1_method_11_code
def yX5_block : MethodName := ⟨RX5, "block", "(IIZ)Z"⟩
abbrev cX5_weight : ByteArray := prog_1_method_12_code
def yX5_weight : MethodName := ⟨RX5, "weight", "(II)I"⟩
abbrev cX5_whyNot : ByteArray := prog_1_method_13_code
def yX5_whyNot : MethodName := ⟨RX5, "whyNot", "(II)I"⟩
abbrev cX5_join : ByteArray := prog_1_method_14_code
def yX5_join : MethodName := ⟨RX5, "join", "(II)I"⟩
abbrev cX5_split : ByteArray := prog_1_method_15_code
def yX5_split : MethodName := ⟨RX5, "split", "(I)I"⟩
abbrev cX5_person : ByteArray := prog_1_method_16_code
def yX5_person : MethodName := ⟨RX5, "person", "(I)I"⟩
abbrev cX5_entry : ByteArray := prog_1_method_17_code
def yX5_entry : MethodName := ⟨RX5, "entry", "(I)I"⟩
abbrev cX5_size : ByteArray := prog_1_method_18_code
def yX5_size : MethodName := ⟨RX5, "size", "(I)I"⟩
abbrev cX5_careerAt : ByteArray := prog_1_method_19_code
def yX5_careerAt : MethodName := ⟨RX5, "careerAt", "(II)I"⟩
abbrev cX5_breaches : ByteArray := prog_1_method_20_code
def yX5_breaches : MethodName := ⟨RX5, "breaches", "(I)I"⟩
abbrev cX5_kin : ByteArray := prog_1_method_21_code
def yX5_kin : MethodName := ⟨RX5, "kin", "(II)Z"⟩
abbrev cX5_degree : ByteArray := prog_1_method_22_code
def yX5_degree : MethodName := ⟨RX5, "degree", "(II)I"⟩
abbrev cX5_best : ByteArray := prog_1_method_23_code
def yX5_best : MethodName := ⟨RX5, "best", "(I)I"⟩
abbrev cX5_bestAnew : ByteArray := prog_1_method_24_code
def yX5_bestAnew : MethodName := ⟨RX5, "bestAnew", "(I)I"⟩
abbrev cX5_rival : ByteArray := prog_1_method_25_code
def yX5_rival : MethodName := ⟨RX5, "rival", "(II)I"⟩
abbrev cX5_differ : ByteArray := prog_1_method_26_code
def yX5_differ : MethodName := ⟨RX5, "differ", "()I"⟩
abbrev cX5_needMention : ByteArray := prog_1_method_27_code
def yX5_needMention : MethodName := ⟨RX5, "needMention", "(I)V"⟩
abbrev cX5_needTwoMentions : ByteArray := prog_1_method_28_code
def yX5_needTwoMentions : MethodName := ⟨RX5, "needTwoMentions", "(II)V"⟩
abbrev cX5_needPerson : ByteArray := prog_1_method_29_code
def yX5_needPerson : MethodName := ⟨RX5, "needPerson", "(I)V"⟩
abbrev cX5_needPost : ByteArray := prog_1_method_30_code
def yX5_needPost : MethodName := ⟨RX5, "needPost", "(I)V"⟩
abbrev cX5_needUnlike : ByteArray := prog_1_method_31_code
def yX5_needUnlike : MethodName := ⟨RX5, "needUnlike", "(II)V"⟩
abbrev cX5_needWithin : ByteArray := prog_1_method_32_code
def yX5_needWithin : MethodName := ⟨RX5, "needWithin", "(III)V"⟩
abbrev cX5_needYears : ByteArray := prog_1_method_33_code
def yX5_needYears : MethodName := ⟨RX5, "needYears", "(II)V"⟩
abbrev cX5_needFewMentions : ByteArray := prog_1_method_34_code
def yX5_needFewMentions : MethodName := ⟨RX5, "needFewMentions", "(I)V"⟩
abbrev cX5_needRoomForPerson : ByteArray := prog_1_method_35_code
def yX5_needRoomForPerson : MethodName := ⟨RX5, "needRoomForPerson", "()V"⟩
abbrev cX5_needDating : ByteArray := prog_1_method_36_code
def yX5_needDating : MethodName := ⟨RX5, "needDating", "(I)V"⟩
abbrev cX5_weightOf : ByteArray := prog_1_method_37_code
def yX5_weightOf : MethodName := ⟨RX5, "weightOf", "(II)I"⟩
abbrev cX5_areSameAndKnown : ByteArray := prog_1_method_38_code
def yX5_areSameAndKnown : MethodName := ⟨RX5, "areSameAndKnown", "(II)Z"⟩
abbrev cX5_haveOtherFamilies : ByteArray := prog_1_method_39_code
def yX5_haveOtherFamilies : MethodName := ⟨RX5, "haveOtherFamilies", "(II)Z"⟩
abbrev cX5_areBarredAtOnce : ByteArray := prog_1_method_40_code
def yX5_areBarredAtOnce : MethodName := ⟨RX5, "areBarredAtOnce", "(II)Z"⟩
abbrev cX5_areTogetherForRival : ByteArray := prog_1_method_41_code
def yX5_areTogetherForRival : MethodName := ⟨RX5, "areTogetherForRival", "(II)Z"⟩
abbrev cX5_reasonAgainst : ByteArray := prog_1_method_42_code
def yX5_reasonAgainst : MethodName := ⟨RX5, "reasonAgainst", "(II)I"⟩
abbrev cX5_reasonAgainstAny : ByteArray := prog_1_method_43_code
def yX5_reasonAgainstAny : MethodName := ⟨RX5, "reasonAgainstAny", "(II)I"⟩
abbrev cX5_reasonOfPair : ByteArray := prog_1_method_44_code
def yX5_reasonOfPair : MethodName := ⟨RX5, "reasonOfPair", "(II)I"⟩
abbrev cX5_mentionsOf : ByteArray := prog_1_method_45_code
def yX5_mentionsOf : MethodName := ⟨RX5, "mentionsOf", "(I)I"⟩
abbrev cX5_layOutCareer : ByteArray := prog_1_method_46_code
def yX5_layOutCareer : MethodName := ⟨RX5, "layOutCareer", "(I)I"⟩
abbrev cX5_putInCareer : ByteArray := prog_1_method_47_code
def yX5_putInCareer : MethodName := ⟨RX5, "putInCareer", "(II)V"⟩
abbrev cX5_rankAt : ByteArray := prog_1_method_48_code
def yX5_rankAt : MethodName := ⟨RX5, "rankAt", "(I)I"⟩
abbrev cX5_stepsBetween : ByteArray := prog_1_method_49_code
def yX5_stepsBetween : MethodName := ⟨RX5, "stepsBetween", "(II)I"⟩
abbrev cX5_stepOn : ByteArray := prog_1_method_50_code
def yX5_stepOn : MethodName := ⟨RX5, "stepOn", "(I)V"⟩
abbrev cX5_reachKinOf : ByteArray := prog_1_method_51_code
def yX5_reachKinOf : MethodName := ⟨RX5, "reachKinOf", "(II)V"⟩
abbrev cX5_layOutPairs : ByteArray := prog_1_method_52_code
def yX5_layOutPairs : MethodName := ⟨RX5, "layOutPairs", "(I)V"⟩
abbrev cX5_worthOfPair : ByteArray := prog_1_method_53_code
def yX5_worthOfPair : MethodName := ⟨RX5, "worthOfPair", "(II)I"⟩
def RX6 : String := "OfficeholdersRollModel"
def TX6 : u_T := fun k => match k with
  | 0 => ("OfficeholdersRollModel", "mentions", "I", false)
  | 1 => ("OfficeholdersRollModel", "name", "[I", true)
  | 2 => ("OfficeholdersRollModel", "family", "[I", true)
  | 3 => ("OfficeholdersRollModel", "place", "[I", true)
  | 4 => ("OfficeholdersRollModel", "post", "[I", true)
  | 5 => ("OfficeholdersRollModel", "ranks", "[I", true)
  | 6 => ("OfficeholdersRollModel", "barred", "[I", true)
  | 7 => ("OfficeholdersRollModel", "sealed", "[I", true)
  | 8 => ("OfficeholdersRollModel", "blocked", "[I", true)
  | 9 => ("OfficeholdersRollModel", "kinOf", "[I", true)
  | 10 => ("OfficeholdersRollModel", "labels", "[I", true)
  | 11 => ("OfficeholdersRollModel", "low", "[I", true)
  | 12 => ("OfficeholdersRollModel", "high", "[I", true)
  | 13 => ("OfficeholdersRollModel", "first", "[I", true)
  | 14 => ("OfficeholdersRollModel", "last", "[I", true)
  | 15 => ("OfficeholdersRollModel", "nextFirst", "[I", true)
  | 16 => ("OfficeholdersRollModel", "nextLast", "[I", true)
  | 17 => ("OfficeholdersRollModel", "told", "I", false)
  | 18 => ("OfficeholdersRollModel", "former", "[I", true)
  | 19 => ("OfficeholdersRollModel", "latter", "[I", true)
  | 20 => ("OfficeholdersRollModel", "gaps", "[I", true)
  | 21 => ("OfficeholdersRollModel", "persons", "I", false)
  | 22 => ("OfficeholdersRollModel", "belongs", "[I", true)
  | 23 => ("OfficeholdersRollModel", "leads", "[I", true)
  | 24 => ("OfficeholdersRollModel", "steps", "[I", true)
  | 25 => ("OfficeholdersRollModel", "chosen", "[I", true)
  | 26 => ("OfficeholdersRollModel", "greatest", "[I", true)
  | _ => ("OfficeholdersRollModel", "thrown", "I", false)
def tyX6 : Nat → FieldType := fun k => match k with
  | 0 => .int
  | 1 => .array .int
  | 2 => .array .int
  | 3 => .array .int
  | 4 => .array .int
  | 5 => .array .int
  | 6 => .array .int
  | 7 => .array .int
  | 8 => .array .int
  | 9 => .array .int
  | 10 => .array .int
  | 11 => .array .int
  | 12 => .array .int
  | 13 => .array .int
  | 14 => .array .int
  | 15 => .array .int
  | 16 => .array .int
  | 17 => .int
  | 18 => .array .int
  | 19 => .array .int
  | 20 => .array .int
  | 21 => .int
  | 22 => .array .int
  | 23 => .array .int
  | 24 => .array .int
  | 25 => .array .int
  | 26 => .array .int
  | _ => .int
theorem nmX6 : ∀ a, a < 28 → ∀ b, b < 28 → a ≠ b → (TX6 a).2.1 ≠ (TX6 b).2.1 := by decide +kernel
theorem tyX6_ok : ∀ k, k < 28 → parseFieldDescriptor (TX6 k).2.2.1 = some (tyX6 k) := by decide +kernel
abbrev cX6_init : ByteArray := prog_8_method_1_code
def yX6_init : MethodName := ⟨RX6, "<init>", "()V"⟩
abbrev cX6_thrown : ByteArray := prog_8_method_2_code
def yX6_thrown : MethodName := ⟨RX6, "thrown", "()I"⟩
abbrev cX6_isIn : ByteArray := prog_8_method_3_code
def yX6_isIn : MethodName := ⟨RX6, "isIn", "(III)Z"⟩
abbrev cX6_isMention : ByteArray := prog_8_method_4_code
def yX6_isMention : MethodName := ⟨RX6, "isMention", "(I)Z"⟩
abbrev cX6_isPost : ByteArray := prog_8_method_5_code
def yX6_isPost : MethodName := ⟨RX6, "isPost", "(I)Z"⟩
abbrev cX6_isPerson : ByteArray := prog_8_method_6_code
def yX6_isPerson : MethodName := ⟨RX6, "isPerson", "(I)Z"⟩
abbrev cX6_has : ByteArray := prog_8_method_7_code
def yX6_has : MethodName := ⟨RX6, "has", "(II)Z"⟩
abbrev cX6_adds : ByteArray := prog_8_method_8_code
def yX6_adds : MethodName := ⟨RX6, "adds", "(I)I"⟩
abbrev cX6_mention : ByteArray := prog_8_method_9_code
def yX6_mention : MethodName := ⟨RX6, "mention", "(IIII)I"⟩
abbrev cX6_rank : ByteArray := prog_8_method_10_code
def yX6_rank : MethodName := ⟨RX6, "rank", "(II)I"⟩
abbrev cX6_bar : ByteArray := prog_8_method_11_code
def yX6_bar : MethodName := ⟨RX6, "bar", "(IIZ)Z"⟩
abbrev cX6_dates : ByteArray := prog_8_method_12_code
def yX6_dates : MethodName := ⟨RX6, "dates", "()Z"⟩
abbrev cX6_moves : ByteArray := prog_8_method_13_code
def yX6_moves : MethodName := ⟨RX6, "moves", "()I"⟩
abbrev cX6_keeps : ByteArray := prog_8_method_14_code
def yX6_keeps : MethodName := ⟨RX6, "keeps", "()V"⟩
abbrev cX6_ahead : ByteArray := prog_8_method_15_code
def yX6_ahead : MethodName := ⟨RX6, "ahead", "(III)I"⟩
abbrev cX6_areYears : ByteArray := prog_8_method_16_code
def yX6_areYears : MethodName := ⟨RX6, "areYears", "(II)Z"⟩
abbrev cX6_finds : ByteArray := prog_8_method_17_code
def yX6_finds : MethodName := ⟨RX6, "finds", "(IIIZ)I"⟩
abbrev cX6_find : ByteArray := prog_8_method_18_code
def yX6_find : MethodName := ⟨RX6, "find", "(III)I"⟩
abbrev cX6_wouldMove : ByteArray := prog_8_method_19_code
def yX6_wouldMove : MethodName := ⟨RX6, "wouldMove", "(III)I"⟩
abbrev cX6_tellsYear : ByteArray := prog_8_method_20_code
def yX6_tellsYear : MethodName := ⟨RX6, "tellsYear", "(IZ)I"⟩
abbrev cX6_year : ByteArray := prog_8_method_21_code
def yX6_year : MethodName := ⟨RX6, "year", "(IZ)I"⟩
abbrev cX6_yearAnew : ByteArray := prog_8_method_22_code
def yX6_yearAnew : MethodName := ⟨RX6, "yearAnew", "(IZ)I"⟩
abbrev cX6_asksTwo : ByteArray := prog_8_method_23_code
def yX6_asksTwo : MethodName := ⟨RX6, "asksTwo", "(II)Z"⟩
abbrev cX6_seal : ByteArray := prog_8_method_24_code
def yX6_seal : MethodName := ⟨RX6, "seal", "(II)Z"⟩
abbrev cX6_block : ByteArray := prog_8_method_25_code
def yX6_block : MethodName := ⟨RX6, "block", "(IIZ)Z"⟩
abbrev cX6_weightOf : ByteArray := prog_8_method_26_code
def yX6_weightOf : MethodName := ⟨RX6, "weightOf", "(II)I"⟩
abbrev cX6_weight : ByteArray := prog_8_method_27_code
def yX6_weight : MethodName := ⟨RX6, "weight", "(II)I"⟩
abbrev cX6_areOfUnlikeFamilies : ByteArray := prog_8_method_28_code
def yX6_areOfUnlikeFamilies : MethodName := ⟨RX6, "areOfUnlikeFamilies", "(II)Z"⟩
abbrev cX6_areBarred : ByteArray := prog_8_method_29_code
def yX6_areBarred : MethodName := ⟨RX6, "areBarred", "(II)Z"⟩
abbrev cX6_hasReason : ByteArray := prog_8_method_30_code
def yX6_hasReason : MethodName := ⟨RX6, "hasReason", "(III)Z"⟩
abbrev cX6_reason : ByteArray := prog_8_method_31_code
def yX6_reason : MethodName := ⟨RX6, "reason", "(II)I"⟩
abbrev cX6_whyNot : ByteArray := prog_8_method_32_code
def yX6_whyNot : MethodName := ⟨RX6, "whyNot", "(II)I"⟩
abbrev cX6_join : ByteArray := prog_8_method_33_code
def yX6_join : MethodName := ⟨RX6, "join", "(II)I"⟩
abbrev cX6_sizeOf : ByteArray := prog_8_method_34_code
def yX6_sizeOf : MethodName := ⟨RX6, "sizeOf", "(I)I"⟩
abbrev cX6_split : ByteArray := prog_8_method_35_code
def yX6_split : MethodName := ⟨RX6, "split", "(I)I"⟩
abbrev cX6_person : ByteArray := prog_8_method_36_code
def yX6_person : MethodName := ⟨RX6, "person", "(I)I"⟩
abbrev cX6_entry : ByteArray := prog_8_method_37_code
def yX6_entry : MethodName := ⟨RX6, "entry", "(I)I"⟩
abbrev cX6_size : ByteArray := prog_8_method_38_code
def yX6_size : MethodName := ⟨RX6, "size", "(I)I"⟩
abbrev cX6_isInCareer : ByteArray := prog_8_method_39_code
def yX6_isInCareer : MethodName := ⟨RX6, "isInCareer", "(II)Z"⟩
abbrev cX6_isEarlier : ByteArray := prog_8_method_40_code
def yX6_isEarlier : MethodName := ⟨RX6, "isEarlier", "(II)Z"⟩
abbrev cX6_inCareer : ByteArray := prog_8_method_41_code
def yX6_inCareer : MethodName := ⟨RX6, "inCareer", "(II)I"⟩
abbrev cX6_careerAt : ByteArray := prog_8_method_42_code
def yX6_careerAt : MethodName := ⟨RX6, "careerAt", "(II)I"⟩
abbrev cX6_breaches : ByteArray := prog_8_method_43_code
def yX6_breaches : MethodName := ⟨RX6, "breaches", "(I)I"⟩
abbrev cX6_kin : ByteArray := prog_8_method_44_code
def yX6_kin : MethodName := ⟨RX6, "kin", "(II)Z"⟩
abbrev cX6_degree : ByteArray := prog_8_method_45_code
def yX6_degree : MethodName := ⟨RX6, "degree", "(II)I"⟩
abbrev cX6_worth : ByteArray := prog_8_method_46_code
def yX6_worth : MethodName := ⟨RX6, "worth", "(I)I"⟩
abbrev cX6_tellsBest : ByteArray := prog_8_method_47_code
def yX6_tellsBest : MethodName := ⟨RX6, "tellsBest", "(I)I"⟩
abbrev cX6_best : ByteArray := prog_8_method_48_code
def yX6_best : MethodName := ⟨RX6, "best", "(I)I"⟩
abbrev cX6_bestAnew : ByteArray := prog_8_method_49_code
def yX6_bestAnew : MethodName := ⟨RX6, "bestAnew", "(I)I"⟩
abbrev cX6_rival : ByteArray := prog_8_method_50_code
def yX6_rival : MethodName := ⟨RX6, "rival", "(II)I"⟩
abbrev cX6_differ : ByteArray := prog_8_method_51_code
def yX6_differ : MethodName := ⟨RX6, "differ", "()I"⟩
def RJ6 : String := "java/lang/Integer"
def TJ6 : u_T := fun k => match k with
  | _ => ("", "", "", false)
def tyJ6 : Nat → FieldType := fun k => match k with
  | _ => .int
theorem nmJ6 : ∀ a, a < 0 → ∀ b, b < 0 → a ≠ b → (TJ6 a).2.1 ≠ (TJ6 b).2.1 := by decide +kernel
theorem tyJ6_ok : ∀ k, k < 0 → parseFieldDescriptor (TJ6 k).2.2.1 = some (tyJ6 k) := by decide +kernel
abbrev cJ6_bitCount_0f7a4 : ByteArray := prog_13_method_49_code
def yJ6_bitCount_0f7a4 : MethodName := ⟨RJ6, "bitCount", "(I)I"⟩
def RJ9 : String := "java/lang/Math"
def TJ9 : u_T := fun k => match k with
  | _ => ("", "", "", false)
def tyJ9 : Nat → FieldType := fun k => match k with
  | _ => .int
theorem nmJ9 : ∀ a, a < 0 → ∀ b, b < 0 → a ≠ b → (TJ9 a).2.1 ≠ (TJ9 b).2.1 := by decide +kernel
theorem tyJ9_ok : ∀ k, k < 0 → parseFieldDescriptor (TJ9 k).2.2.1 = some (tyJ9 k) := by decide +kernel
abbrev cJ9_max_7cf53 : ByteArray := prog_14_method_65_code
def yJ9_max_7cf53 : MethodName := ⟨RJ9, "max", "(II)I"⟩
abbrev cJ9_min_7cf53 : ByteArray := prog_14_method_69_code
def yJ9_min_7cf53 : MethodName := ⟨RJ9, "min", "(II)I"⟩
def RJ0 : String := "java/lang/String"
def TJ0 : u_T := fun k => match k with
  | _ => ("", "", "", false)
def tyJ0 : Nat → FieldType := fun k => match k with
  | _ => .int
theorem nmJ0 : ∀ a, a < 0 → ∀ b, b < 0 → a ≠ b → (TJ0 a).2.1 ≠ (TJ0 b).2.1 := by decide +kernel
theorem tyJ0_ok : ∀ k, k < 0 → parseFieldDescriptor (TJ0 k).2.2.1 = some (tyJ0 k) := by decide +kernel
def RL : String := "OfficeholdersRollLaw"
abbrev cL_mention : ByteArray := method_3_code
def yL_mention : MethodName := ⟨RL, "mention", "(LOfficeholdersRoll;IIII[J)I"⟩
abbrev cL_rank : ByteArray := method_4_code
def yL_rank : MethodName := ⟨RL, "rank", "(LOfficeholdersRoll;II[J)I"⟩
abbrev cL_bar : ByteArray := method_5_code
def yL_bar : MethodName := ⟨RL, "bar", "(LOfficeholdersRoll;IIZ[J)I"⟩
abbrev cL_ahead : ByteArray := method_6_code
def yL_ahead : MethodName := ⟨RL, "ahead", "(LOfficeholdersRoll;III[J)I"⟩
abbrev cL_find : ByteArray := method_7_code
def yL_find : MethodName := ⟨RL, "find", "(LOfficeholdersRoll;III[J)I"⟩
abbrev cL_wouldMove : ByteArray := method_8_code
def yL_wouldMove : MethodName := ⟨RL, "wouldMove", "(LOfficeholdersRoll;III[J)I"⟩
abbrev cL_year : ByteArray := method_9_code
def yL_year : MethodName := ⟨RL, "year", "(LOfficeholdersRoll;IZ[J)I"⟩
abbrev cL_yearAnew : ByteArray := method_10_code
def yL_yearAnew : MethodName := ⟨RL, "yearAnew", "(LOfficeholdersRoll;IZ[J)I"⟩
abbrev cL_seal : ByteArray := method_11_code
def yL_seal : MethodName := ⟨RL, "seal", "(LOfficeholdersRoll;II[J)I"⟩
abbrev cL_block : ByteArray := method_12_code
def yL_block : MethodName := ⟨RL, "block", "(LOfficeholdersRoll;IIZ[J)I"⟩
abbrev cL_weight : ByteArray := method_13_code
def yL_weight : MethodName := ⟨RL, "weight", "(LOfficeholdersRoll;II[J)I"⟩
abbrev cL_whyNot : ByteArray := method_14_code
def yL_whyNot : MethodName := ⟨RL, "whyNot", "(LOfficeholdersRoll;II[J)I"⟩
abbrev cL_join : ByteArray := method_15_code
def yL_join : MethodName := ⟨RL, "join", "(LOfficeholdersRoll;II[J)I"⟩
abbrev cL_split : ByteArray := method_16_code
def yL_split : MethodName := ⟨RL, "split", "(LOfficeholdersRoll;I[J)I"⟩
abbrev cL_person : ByteArray := method_17_code
def yL_person : MethodName := ⟨RL, "person", "(LOfficeholdersRoll;I[J)I"⟩
abbrev cL_entry : ByteArray := method_18_code
def yL_entry : MethodName := ⟨RL, "entry", "(LOfficeholdersRoll;I[J)I"⟩
abbrev cL_size : ByteArray := method_19_code
def yL_size : MethodName := ⟨RL, "size", "(LOfficeholdersRoll;I[J)I"⟩
abbrev cL_careerAt : ByteArray := method_20_code
def yL_careerAt : MethodName := ⟨RL, "careerAt", "(LOfficeholdersRoll;II[J)I"⟩
abbrev cL_breaches : ByteArray := method_21_code
def yL_breaches : MethodName := ⟨RL, "breaches", "(LOfficeholdersRoll;I[J)I"⟩
abbrev cL_kin : ByteArray := method_22_code
def yL_kin : MethodName := ⟨RL, "kin", "(LOfficeholdersRoll;II[J)I"⟩
abbrev cL_degree : ByteArray := method_23_code
def yL_degree : MethodName := ⟨RL, "degree", "(LOfficeholdersRoll;II[J)I"⟩
abbrev cL_best : ByteArray := method_24_code
def yL_best : MethodName := ⟨RL, "best", "(LOfficeholdersRoll;I[J)I"⟩
abbrev cL_bestAnew : ByteArray := method_25_code
def yL_bestAnew : MethodName := ⟨RL, "bestAnew", "(LOfficeholdersRoll;I[J)I"⟩
abbrev cL_rival : ByteArray := method_26_code
def yL_rival : MethodName := ⟨RL, "rival", "(LOfficeholdersRoll;II[J)I"⟩
abbrev cL_law : ByteArray := code
def yL_law : MethodName := ⟨RL, "law", "([I)Z"⟩
abbrev vwCl : List vw_C := [(RX0, TX0, 6), (RX1, TX1, 1), (RX2, TX2, 3), (RX3, TX3, 1), (RX4, TX4, 11), (RX5, TX5, 16), (RX6, TX6, 28)]
end
section
/-! words of the tables that the walks use, each by its place -/
def q_ok (w : Cond) : Prop := w ∈ lw_tbl ∧ goodWord w = true
/-- what the tables say, in a state: all good words -/
def q_Tb (U : State) : Prop := ∀ w : Cond, q_ok w → w.before #[] U = true
def q_okM (y : MethodName) (bytes : ByteArray) (maxL : Nat) (ret : Option FieldType) (n : Nat) : Prop :=
  q_ok (.code y bytes maxL ret) ∧ q_ok (.initialized y.cls) ∧ q_ok (.instanceMethod y) ∧ q_ok (.selects y.cls y y) ∧ (y.cls ≠ "java/lang/invoke/MethodHandle" ∧ y.cls ≠ "java/lang/invoke/VarHandle") ∧ (parseMethodDescriptor y.desc).map (fun d => d.parameters.length) = some n
def q_okS (y : MethodName) (bytes : ByteArray) (maxL : Nat) (ret : Option FieldType) (n : Nat) : Prop :=
  q_ok (.code y bytes maxL ret) ∧ q_ok (.initialized y.cls) ∧ q_ok (.static y) ∧ (y.cls ≠ "java/lang/invoke/MethodHandle" ∧ y.cls ≠ "java/lang/invoke/VarHandle") ∧ (parseMethodDescriptor y.desc).map (fun d => d.parameters.length) = some n
def q_okI (y : MethodName) (bytes : ByteArray) (maxL : Nat) (n : Nat) : Prop :=
  q_ok (.code y bytes maxL none) ∧ q_ok (.initialized y.cls) ∧ q_ok (.instanceMethod y) ∧ y.name = "<init>" ∧ (y.cls ≠ "java/lang/invoke/MethodHandle" ∧ y.cls ≠ "java/lang/invoke/VarHandle") ∧ (parseMethodDescriptor y.desc).map (fun d => d.parameters.length) = some n
theorem ki_OfficeholdersRollLaw : q_ok (.initialized RL) := ⟨List.mem_of_getElem? (i := 60) (by decide +kernel), by decide +kernel⟩
theorem ki_OfficeholdersRoll : q_ok (.initialized RX5) := ⟨List.mem_of_getElem? (i := 61) (by decide +kernel), by decide +kernel⟩
theorem ki_OfficeholdersRoll_Row : q_ok (.initialized RX3) := ⟨List.mem_of_getElem? (i := 62) (by decide +kernel), by decide +kernel⟩
theorem ki_java_lang_Math : q_ok (.initialized RJ9) := ⟨List.mem_of_getElem? (i := 63) (by decide +kernel), by decide +kernel⟩
theorem ki_OfficeholdersRoll_Pairs : q_ok (.initialized RX1) := ⟨List.mem_of_getElem? (i := 64) (by decide +kernel), by decide +kernel⟩
theorem ki_OfficeholdersRoll_Years : q_ok (.initialized RX4) := ⟨List.mem_of_getElem? (i := 65) (by decide +kernel), by decide +kernel⟩
theorem ki_OfficeholdersRoll_Persons : q_ok (.initialized RX2) := ⟨List.mem_of_getElem? (i := 66) (by decide +kernel), by decide +kernel⟩
theorem ki_OfficeholdersRoll_Groupings : q_ok (.initialized RX0) := ⟨List.mem_of_getElem? (i := 67) (by decide +kernel), by decide +kernel⟩
theorem ki_OfficeholdersRollModel : q_ok (.initialized RX6) := ⟨List.mem_of_getElem? (i := 68) (by decide +kernel), by decide +kernel⟩
theorem ki_java_lang_Throwable : q_ok (.initialized "java/lang/Throwable") := ⟨List.mem_of_getElem? (i := 69) (by decide +kernel), by decide +kernel⟩
theorem ki_java_lang_Exception : q_ok (.initialized "java/lang/Exception") := ⟨List.mem_of_getElem? (i := 70) (by decide +kernel), by decide +kernel⟩
theorem ki_java_lang_RuntimeException : q_ok (.initialized "java/lang/RuntimeException") := ⟨List.mem_of_getElem? (i := 71) (by decide +kernel), by decide +kernel⟩
theorem ki_java_lang_IndexOutOfBoundsException : q_ok (.initialized "java/lang/IndexOutOfBoundsException") := ⟨List.mem_of_getElem? (i := 72) (by decide +kernel), by decide +kernel⟩
theorem ki_java_lang_IllegalArgumentException : q_ok (.initialized "java/lang/IllegalArgumentException") := ⟨List.mem_of_getElem? (i := 73) (by decide +kernel), by decide +kernel⟩
theorem ki_java_lang_IllegalStateException : q_ok (.initialized "java/lang/IllegalStateException") := ⟨List.mem_of_getElem? (i := 74) (by decide +kernel), by decide +kernel⟩
theorem ki_java_lang_Integer : q_ok (.initialized RJ6) := ⟨List.mem_of_getElem? (i := 75) (by decide +kernel), by decide +kernel⟩
theorem k_X5_init : q_okI yX5_init cX5_init 2 0 := ⟨⟨List.mem_of_getElem? (i := 80) (by decide +kernel), by decide +kernel⟩, ki_OfficeholdersRoll, ⟨List.mem_of_getElem? (i := 79) (by decide +kernel), by decide +kernel⟩, rfl, ⟨by decide +kernel, by decide +kernel⟩, by decide +kernel⟩
theorem kc_objectInit : q_ok (.code objectInit ⟨#[0xb1]⟩ 1 none) := ⟨List.mem_of_getElem? (i := 83) (by decide +kernel), by decide +kernel⟩
theorem k_X3_init : q_okI yX3_init cX3_init 2 1 := ⟨⟨List.mem_of_getElem? (i := 88) (by decide +kernel), by decide +kernel⟩, ki_OfficeholdersRoll_Row, ⟨List.mem_of_getElem? (i := 87) (by decide +kernel), by decide +kernel⟩, rfl, ⟨by decide +kernel, by decide +kernel⟩, by decide +kernel⟩
theorem k_Lib_Math_max_name : q_okS Lib.Math.max.name Lib.Math.max.code 2 (some .int) 2 := ⟨⟨List.mem_of_getElem? (i := 92) (by decide +kernel), by decide +kernel⟩, ki_java_lang_Math, ⟨List.mem_of_getElem? (i := 91) (by decide +kernel), by decide +kernel⟩, ⟨by decide +kernel, by decide +kernel⟩, by decide +kernel⟩
theorem k_X1_init : q_okI yX1_init cX1_init 2 1 := ⟨⟨List.mem_of_getElem? (i := 102) (by decide +kernel), by decide +kernel⟩, ki_OfficeholdersRoll_Pairs, ⟨List.mem_of_getElem? (i := 101) (by decide +kernel), by decide +kernel⟩, rfl, ⟨by decide +kernel, by decide +kernel⟩, by decide +kernel⟩
theorem k_X4_init : q_okI yX4_init cX4_init 1 0 := ⟨⟨List.mem_of_getElem? (i := 114) (by decide +kernel), by decide +kernel⟩, ki_OfficeholdersRoll_Years, ⟨List.mem_of_getElem? (i := 113) (by decide +kernel), by decide +kernel⟩, rfl, ⟨by decide +kernel, by decide +kernel⟩, by decide +kernel⟩
theorem k_X3_fill : q_okM yX3_fill cX3_fill 3 none 1 := ⟨⟨List.mem_of_getElem? (i := 121) (by decide +kernel), by decide +kernel⟩, ki_OfficeholdersRoll_Row, ⟨List.mem_of_getElem? (i := 119) (by decide +kernel), by decide +kernel⟩, ⟨List.mem_of_getElem? (i := 120) (by decide +kernel), by decide +kernel⟩, ⟨by decide +kernel, by decide +kernel⟩, by decide +kernel⟩
theorem k_X2_init : q_okI yX2_init cX2_init 1 0 := ⟨⟨List.mem_of_getElem? (i := 160) (by decide +kernel), by decide +kernel⟩, ki_OfficeholdersRoll_Persons, ⟨List.mem_of_getElem? (i := 159) (by decide +kernel), by decide +kernel⟩, rfl, ⟨by decide +kernel, by decide +kernel⟩, by decide +kernel⟩
theorem k_X0_init : q_okI yX0_init cX0_init 1 0 := ⟨⟨List.mem_of_getElem? (i := 178) (by decide +kernel), by decide +kernel⟩, ki_OfficeholdersRoll_Groupings, ⟨List.mem_of_getElem? (i := 177) (by decide +kernel), by decide +kernel⟩, rfl, ⟨by decide +kernel, by decide +kernel⟩, by decide +kernel⟩
theorem k_X3_put : q_okM yX3_put cX3_put 3 none 2 := ⟨⟨List.mem_of_getElem? (i := 204) (by decide +kernel), by decide +kernel⟩, ki_OfficeholdersRoll_Row, ⟨List.mem_of_getElem? (i := 202) (by decide +kernel), by decide +kernel⟩, ⟨List.mem_of_getElem? (i := 203) (by decide +kernel), by decide +kernel⟩, ⟨by decide +kernel, by decide +kernel⟩, by decide +kernel⟩
theorem k_X5_differ : q_okM yX5_differ cX5_differ 5 (some .int) 0 := ⟨⟨List.mem_of_getElem? (i := 257) (by decide +kernel), by decide +kernel⟩, ki_OfficeholdersRoll, ⟨List.mem_of_getElem? (i := 255) (by decide +kernel), by decide +kernel⟩, ⟨List.mem_of_getElem? (i := 256) (by decide +kernel), by decide +kernel⟩, ⟨by decide +kernel, by decide +kernel⟩, by decide +kernel⟩
theorem k_X2_ownerOf : q_okM yX2_ownerOf cX2_ownerOf 2 (some .int) 1 := ⟨⟨List.mem_of_getElem? (i := 261) (by decide +kernel), by decide +kernel⟩, ki_OfficeholdersRoll_Persons, ⟨List.mem_of_getElem? (i := 259) (by decide +kernel), by decide +kernel⟩, ⟨List.mem_of_getElem? (i := 260) (by decide +kernel), by decide +kernel⟩, ⟨by decide +kernel, by decide +kernel⟩, by decide +kernel⟩
theorem k_X3_at : q_okM yX3_at cX3_at 2 (some .int) 1 := ⟨⟨List.mem_of_getElem? (i := 265) (by decide +kernel), by decide +kernel⟩, ki_OfficeholdersRoll_Row, ⟨List.mem_of_getElem? (i := 263) (by decide +kernel), by decide +kernel⟩, ⟨List.mem_of_getElem? (i := 264) (by decide +kernel), by decide +kernel⟩, ⟨by decide +kernel, by decide +kernel⟩, by decide +kernel⟩
theorem k_X5_areTogetherForRival : q_okM yX5_areTogetherForRival cX5_areTogetherForRival 3 (some .boolean) 2 := ⟨⟨List.mem_of_getElem? (i := 269) (by decide +kernel), by decide +kernel⟩, ki_OfficeholdersRoll, ⟨List.mem_of_getElem? (i := 268) (by decide +kernel), by decide +kernel⟩, ⟨List.mem_of_getElem? (i := 0) (by decide +kernel), by decide +kernel⟩, ⟨by decide +kernel, by decide +kernel⟩, by decide +kernel⟩
theorem k_X5_areSameAndKnown : q_okS yX5_areSameAndKnown cX5_areSameAndKnown 2 (some .boolean) 2 := ⟨⟨List.mem_of_getElem? (i := 273) (by decide +kernel), by decide +kernel⟩, ki_OfficeholdersRoll, ⟨List.mem_of_getElem? (i := 272) (by decide +kernel), by decide +kernel⟩, ⟨by decide +kernel, by decide +kernel⟩, by decide +kernel⟩
theorem k_X5_mention : q_okM yX5_mention cX5_mention 6 (some .int) 4 := ⟨⟨List.mem_of_getElem? (i := 283) (by decide +kernel), by decide +kernel⟩, ki_OfficeholdersRoll, ⟨List.mem_of_getElem? (i := 281) (by decide +kernel), by decide +kernel⟩, ⟨List.mem_of_getElem? (i := 282) (by decide +kernel), by decide +kernel⟩, ⟨by decide +kernel, by decide +kernel⟩, by decide +kernel⟩
theorem k_X5_needPost : q_okS yX5_needPost cX5_needPost 1 none 1 := ⟨⟨List.mem_of_getElem? (i := 286) (by decide +kernel), by decide +kernel⟩, ki_OfficeholdersRoll, ⟨List.mem_of_getElem? (i := 285) (by decide +kernel), by decide +kernel⟩, ⟨by decide +kernel, by decide +kernel⟩, by decide +kernel⟩
theorem k_X5_needWithin : q_okS yX5_needWithin cX5_needWithin 3 none 3 := ⟨⟨List.mem_of_getElem? (i := 357) (by decide +kernel), by decide +kernel⟩, ki_OfficeholdersRoll, ⟨List.mem_of_getElem? (i := 356) (by decide +kernel), by decide +kernel⟩, ⟨by decide +kernel, by decide +kernel⟩, by decide +kernel⟩
theorem k_X5_needRoomForPerson : q_okM yX5_needRoomForPerson cX5_needRoomForPerson 1 none 0 := ⟨⟨List.mem_of_getElem? (i := 393) (by decide +kernel), by decide +kernel⟩, ki_OfficeholdersRoll, ⟨List.mem_of_getElem? (i := 392) (by decide +kernel), by decide +kernel⟩, ⟨List.mem_of_getElem? (i := 2) (by decide +kernel), by decide +kernel⟩, ⟨by decide +kernel, by decide +kernel⟩, by decide +kernel⟩
theorem k_X2_made : q_okM yX2_made cX2_made 1 (some .int) 0 := ⟨⟨List.mem_of_getElem? (i := 397) (by decide +kernel), by decide +kernel⟩, ki_OfficeholdersRoll_Persons, ⟨List.mem_of_getElem? (i := 395) (by decide +kernel), by decide +kernel⟩, ⟨List.mem_of_getElem? (i := 396) (by decide +kernel), by decide +kernel⟩, ⟨by decide +kernel, by decide +kernel⟩, by decide +kernel⟩
theorem k_X2_moveToNew : q_okM yX2_moveToNew cX2_moveToNew 3 (some .int) 1 := ⟨⟨List.mem_of_getElem? (i := 402) (by decide +kernel), by decide +kernel⟩, ki_OfficeholdersRoll_Persons, ⟨List.mem_of_getElem? (i := 400) (by decide +kernel), by decide +kernel⟩, ⟨List.mem_of_getElem? (i := 401) (by decide +kernel), by decide +kernel⟩, ⟨by decide +kernel, by decide +kernel⟩, by decide +kernel⟩
theorem k_X5_rank : q_okM yX5_rank cX5_rank 4 (some .int) 2 := ⟨⟨List.mem_of_getElem? (i := 410) (by decide +kernel), by decide +kernel⟩, ki_OfficeholdersRoll, ⟨List.mem_of_getElem? (i := 408) (by decide +kernel), by decide +kernel⟩, ⟨List.mem_of_getElem? (i := 409) (by decide +kernel), by decide +kernel⟩, ⟨by decide +kernel, by decide +kernel⟩, by decide +kernel⟩
theorem k_X5_bar : q_okM yX5_bar cX5_bar 4 (some .boolean) 3 := ⟨⟨List.mem_of_getElem? (i := 417) (by decide +kernel), by decide +kernel⟩, ki_OfficeholdersRoll, ⟨List.mem_of_getElem? (i := 415) (by decide +kernel), by decide +kernel⟩, ⟨List.mem_of_getElem? (i := 416) (by decide +kernel), by decide +kernel⟩, ⟨by decide +kernel, by decide +kernel⟩, by decide +kernel⟩
theorem k_X5_needUnlike : q_okS yX5_needUnlike cX5_needUnlike 2 none 2 := ⟨⟨List.mem_of_getElem? (i := 420) (by decide +kernel), by decide +kernel⟩, ki_OfficeholdersRoll, ⟨List.mem_of_getElem? (i := 419) (by decide +kernel), by decide +kernel⟩, ⟨by decide +kernel, by decide +kernel⟩, by decide +kernel⟩
theorem k_X1_tell : q_okM yX1_tell cX1_tell 5 (some .boolean) 3 := ⟨⟨List.mem_of_getElem? (i := 425) (by decide +kernel), by decide +kernel⟩, ki_OfficeholdersRoll_Pairs, ⟨List.mem_of_getElem? (i := 423) (by decide +kernel), by decide +kernel⟩, ⟨List.mem_of_getElem? (i := 424) (by decide +kernel), by decide +kernel⟩, ⟨by decide +kernel, by decide +kernel⟩, by decide +kernel⟩
theorem k_X1_has : q_okM yX1_has cX1_has 3 (some .boolean) 2 := ⟨⟨List.mem_of_getElem? (i := 429) (by decide +kernel), by decide +kernel⟩, ki_OfficeholdersRoll_Pairs, ⟨List.mem_of_getElem? (i := 427) (by decide +kernel), by decide +kernel⟩, ⟨List.mem_of_getElem? (i := 428) (by decide +kernel), by decide +kernel⟩, ⟨by decide +kernel, by decide +kernel⟩, by decide +kernel⟩
theorem k_X1_mark : q_okM yX1_mark cX1_mark 5 none 3 := ⟨⟨List.mem_of_getElem? (i := 434) (by decide +kernel), by decide +kernel⟩, ki_OfficeholdersRoll_Pairs, ⟨List.mem_of_getElem? (i := 433) (by decide +kernel), by decide +kernel⟩, ⟨List.mem_of_getElem? (i := 3) (by decide +kernel), by decide +kernel⟩, ⟨by decide +kernel, by decide +kernel⟩, by decide +kernel⟩
theorem k_X5_ahead : q_okM yX5_ahead cX5_ahead 5 (some .int) 3 := ⟨⟨List.mem_of_getElem? (i := 442) (by decide +kernel), by decide +kernel⟩, ki_OfficeholdersRoll, ⟨List.mem_of_getElem? (i := 440) (by decide +kernel), by decide +kernel⟩, ⟨List.mem_of_getElem? (i := 441) (by decide +kernel), by decide +kernel⟩, ⟨by decide +kernel, by decide +kernel⟩, by decide +kernel⟩
theorem k_X5_needTwoMentions : q_okM yX5_needTwoMentions cX5_needTwoMentions 3 none 2 := ⟨⟨List.mem_of_getElem? (i := 446) (by decide +kernel), by decide +kernel⟩, ki_OfficeholdersRoll, ⟨List.mem_of_getElem? (i := 445) (by decide +kernel), by decide +kernel⟩, ⟨List.mem_of_getElem? (i := 4) (by decide +kernel), by decide +kernel⟩, ⟨by decide +kernel, by decide +kernel⟩, by decide +kernel⟩
theorem k_X5_needMention : q_okM yX5_needMention cX5_needMention 2 none 1 := ⟨⟨List.mem_of_getElem? (i := 450) (by decide +kernel), by decide +kernel⟩, ki_OfficeholdersRoll, ⟨List.mem_of_getElem? (i := 449) (by decide +kernel), by decide +kernel⟩, ⟨List.mem_of_getElem? (i := 5) (by decide +kernel), by decide +kernel⟩, ⟨by decide +kernel, by decide +kernel⟩, by decide +kernel⟩
theorem k_X4_isFullyTold : q_okM yX4_isFullyTold cX4_isFullyTold 1 (some .boolean) 0 := ⟨⟨List.mem_of_getElem? (i := 455) (by decide +kernel), by decide +kernel⟩, ki_OfficeholdersRoll_Years, ⟨List.mem_of_getElem? (i := 453) (by decide +kernel), by decide +kernel⟩, ⟨List.mem_of_getElem? (i := 454) (by decide +kernel), by decide +kernel⟩, ⟨by decide +kernel, by decide +kernel⟩, by decide +kernel⟩
theorem k_X4_tellAhead : q_okM yX4_tellAhead cX4_tellAhead 5 (some .int) 3 := ⟨⟨List.mem_of_getElem? (i := 460) (by decide +kernel), by decide +kernel⟩, ki_OfficeholdersRoll_Years, ⟨List.mem_of_getElem? (i := 458) (by decide +kernel), by decide +kernel⟩, ⟨List.mem_of_getElem? (i := 459) (by decide +kernel), by decide +kernel⟩, ⟨by decide +kernel, by decide +kernel⟩, by decide +kernel⟩
theorem k_X4_tryDating : q_okM yX4_tryDating cX4_tryDating 1 (some .int) 0 := ⟨⟨List.mem_of_getElem? (i := 465) (by decide +kernel), by decide +kernel⟩, ki_OfficeholdersRoll_Years, ⟨List.mem_of_getElem? (i := 464) (by decide +kernel), by decide +kernel⟩, ⟨List.mem_of_getElem? (i := 6) (by decide +kernel), by decide +kernel⟩, ⟨by decide +kernel, by decide +kernel⟩, by decide +kernel⟩
theorem k_X3_copyFrom : q_okM yX3_copyFrom cX3_copyFrom 3 none 1 := ⟨⟨List.mem_of_getElem? (i := 469) (by decide +kernel), by decide +kernel⟩, ki_OfficeholdersRoll_Row, ⟨List.mem_of_getElem? (i := 467) (by decide +kernel), by decide +kernel⟩, ⟨List.mem_of_getElem? (i := 468) (by decide +kernel), by decide +kernel⟩, ⟨by decide +kernel, by decide +kernel⟩, by decide +kernel⟩
theorem k_X4_comesToRest : q_okM yX4_comesToRest cX4_comesToRest 2 (some .boolean) 0 := ⟨⟨List.mem_of_getElem? (i := 474) (by decide +kernel), by decide +kernel⟩, ki_OfficeholdersRoll_Years, ⟨List.mem_of_getElem? (i := 473) (by decide +kernel), by decide +kernel⟩, ⟨List.mem_of_getElem? (i := 7) (by decide +kernel), by decide +kernel⟩, ⟨by decide +kernel, by decide +kernel⟩, by decide +kernel⟩
theorem k_X4_pushAll : q_okM yX4_pushAll cX4_pushAll 7 (some .boolean) 0 := ⟨⟨List.mem_of_getElem? (i := 478) (by decide +kernel), by decide +kernel⟩, ki_OfficeholdersRoll_Years, ⟨List.mem_of_getElem? (i := 477) (by decide +kernel), by decide +kernel⟩, ⟨List.mem_of_getElem? (i := 8) (by decide +kernel), by decide +kernel⟩, ⟨by decide +kernel, by decide +kernel⟩, by decide +kernel⟩
theorem k_X4_leavesYears : q_okM yX4_leavesYears cX4_leavesYears 2 (some .boolean) 0 := ⟨⟨List.mem_of_getElem? (i := 483) (by decide +kernel), by decide +kernel⟩, ki_OfficeholdersRoll_Years, ⟨List.mem_of_getElem? (i := 482) (by decide +kernel), by decide +kernel⟩, ⟨List.mem_of_getElem? (i := 9) (by decide +kernel), by decide +kernel⟩, ⟨by decide +kernel, by decide +kernel⟩, by decide +kernel⟩
theorem k_X4_countMoved : q_okM yX4_countMoved cX4_countMoved 3 (some .int) 0 := ⟨⟨List.mem_of_getElem? (i := 487) (by decide +kernel), by decide +kernel⟩, ki_OfficeholdersRoll_Years, ⟨List.mem_of_getElem? (i := 486) (by decide +kernel), by decide +kernel⟩, ⟨List.mem_of_getElem? (i := 10) (by decide +kernel), by decide +kernel⟩, ⟨by decide +kernel, by decide +kernel⟩, by decide +kernel⟩
theorem k_X4_keepTried : q_okM yX4_keepTried cX4_keepTried 1 none 0 := ⟨⟨List.mem_of_getElem? (i := 491) (by decide +kernel), by decide +kernel⟩, ki_OfficeholdersRoll_Years, ⟨List.mem_of_getElem? (i := 490) (by decide +kernel), by decide +kernel⟩, ⟨List.mem_of_getElem? (i := 11) (by decide +kernel), by decide +kernel⟩, ⟨by decide +kernel, by decide +kernel⟩, by decide +kernel⟩
theorem k_X5_needDating : q_okS yX5_needDating cX5_needDating 1 none 1 := ⟨⟨List.mem_of_getElem? (i := 494) (by decide +kernel), by decide +kernel⟩, ki_OfficeholdersRoll, ⟨List.mem_of_getElem? (i := 493) (by decide +kernel), by decide +kernel⟩, ⟨by decide +kernel, by decide +kernel⟩, by decide +kernel⟩
theorem k_X5_find : q_okM yX5_find cX5_find 5 (some .int) 3 := ⟨⟨List.mem_of_getElem? (i := 502) (by decide +kernel), by decide +kernel⟩, ki_OfficeholdersRoll, ⟨List.mem_of_getElem? (i := 500) (by decide +kernel), by decide +kernel⟩, ⟨List.mem_of_getElem? (i := 501) (by decide +kernel), by decide +kernel⟩, ⟨by decide +kernel, by decide +kernel⟩, by decide +kernel⟩
theorem k_X5_needYears : q_okS yX5_needYears cX5_needYears 2 none 2 := ⟨⟨List.mem_of_getElem? (i := 505) (by decide +kernel), by decide +kernel⟩, ki_OfficeholdersRoll, ⟨List.mem_of_getElem? (i := 504) (by decide +kernel), by decide +kernel⟩, ⟨by decide +kernel, by decide +kernel⟩, by decide +kernel⟩
theorem k_X4_narrow : q_okM yX4_narrow cX4_narrow 5 (some .int) 3 := ⟨⟨List.mem_of_getElem? (i := 509) (by decide +kernel), by decide +kernel⟩, ki_OfficeholdersRoll_Years, ⟨List.mem_of_getElem? (i := 507) (by decide +kernel), by decide +kernel⟩, ⟨List.mem_of_getElem? (i := 508) (by decide +kernel), by decide +kernel⟩, ⟨by decide +kernel, by decide +kernel⟩, by decide +kernel⟩
theorem k_X4_tryNarrow : q_okM yX4_tryNarrow cX4_tryNarrow 7 (some .int) 3 := ⟨⟨List.mem_of_getElem? (i := 513) (by decide +kernel), by decide +kernel⟩, ki_OfficeholdersRoll_Years, ⟨List.mem_of_getElem? (i := 511) (by decide +kernel), by decide +kernel⟩, ⟨List.mem_of_getElem? (i := 512) (by decide +kernel), by decide +kernel⟩, ⟨by decide +kernel, by decide +kernel⟩, by decide +kernel⟩
theorem k_Lib_Math_min_name : q_okS Lib.Math.min.name Lib.Math.min.code 2 (some .int) 2 := ⟨⟨List.mem_of_getElem? (i := 517) (by decide +kernel), by decide +kernel⟩, ki_java_lang_Math, ⟨List.mem_of_getElem? (i := 516) (by decide +kernel), by decide +kernel⟩, ⟨by decide +kernel, by decide +kernel⟩, by decide +kernel⟩
theorem k_X5_wouldMove : q_okM yX5_wouldMove cX5_wouldMove 4 (some .int) 3 := ⟨⟨List.mem_of_getElem? (i := 524) (by decide +kernel), by decide +kernel⟩, ki_OfficeholdersRoll, ⟨List.mem_of_getElem? (i := 522) (by decide +kernel), by decide +kernel⟩, ⟨List.mem_of_getElem? (i := 523) (by decide +kernel), by decide +kernel⟩, ⟨by decide +kernel, by decide +kernel⟩, by decide +kernel⟩
theorem k_X5_year : q_okM yX5_year cX5_year 3 (some .int) 2 := ⟨⟨List.mem_of_getElem? (i := 532) (by decide +kernel), by decide +kernel⟩, ki_OfficeholdersRoll, ⟨List.mem_of_getElem? (i := 530) (by decide +kernel), by decide +kernel⟩, ⟨List.mem_of_getElem? (i := 531) (by decide +kernel), by decide +kernel⟩, ⟨by decide +kernel, by decide +kernel⟩, by decide +kernel⟩
theorem k_X4_lastOf : q_okM yX4_lastOf cX4_lastOf 2 (some .int) 1 := ⟨⟨List.mem_of_getElem? (i := 536) (by decide +kernel), by decide +kernel⟩, ki_OfficeholdersRoll_Years, ⟨List.mem_of_getElem? (i := 534) (by decide +kernel), by decide +kernel⟩, ⟨List.mem_of_getElem? (i := 535) (by decide +kernel), by decide +kernel⟩, ⟨by decide +kernel, by decide +kernel⟩, by decide +kernel⟩
theorem k_X4_firstOf : q_okM yX4_firstOf cX4_firstOf 2 (some .int) 1 := ⟨⟨List.mem_of_getElem? (i := 540) (by decide +kernel), by decide +kernel⟩, ki_OfficeholdersRoll_Years, ⟨List.mem_of_getElem? (i := 538) (by decide +kernel), by decide +kernel⟩, ⟨List.mem_of_getElem? (i := 539) (by decide +kernel), by decide +kernel⟩, ⟨by decide +kernel, by decide +kernel⟩, by decide +kernel⟩
theorem k_X5_yearAnew : q_okM yX5_yearAnew cX5_yearAnew 3 (some .int) 2 := ⟨⟨List.mem_of_getElem? (i := 547) (by decide +kernel), by decide +kernel⟩, ki_OfficeholdersRoll, ⟨List.mem_of_getElem? (i := 545) (by decide +kernel), by decide +kernel⟩, ⟨List.mem_of_getElem? (i := 546) (by decide +kernel), by decide +kernel⟩, ⟨by decide +kernel, by decide +kernel⟩, by decide +kernel⟩
theorem k_X4_lastByWays : q_okM yX4_lastByWays cX4_lastByWays 5 (some .int) 1 := ⟨⟨List.mem_of_getElem? (i := 551) (by decide +kernel), by decide +kernel⟩, ki_OfficeholdersRoll_Years, ⟨List.mem_of_getElem? (i := 549) (by decide +kernel), by decide +kernel⟩, ⟨List.mem_of_getElem? (i := 550) (by decide +kernel), by decide +kernel⟩, ⟨by decide +kernel, by decide +kernel⟩, by decide +kernel⟩
theorem k_X4_measureWays : q_okM yX4_measureWays cX4_measureWays 3 none 0 := ⟨⟨List.mem_of_getElem? (i := 555) (by decide +kernel), by decide +kernel⟩, ki_OfficeholdersRoll_Years, ⟨List.mem_of_getElem? (i := 554) (by decide +kernel), by decide +kernel⟩, ⟨List.mem_of_getElem? (i := 12) (by decide +kernel), by decide +kernel⟩, ⟨by decide +kernel, by decide +kernel⟩, by decide +kernel⟩
theorem k_X4_lengthen : q_okM yX4_lengthen cX4_lengthen 4 none 3 := ⟨⟨List.mem_of_getElem? (i := 560) (by decide +kernel), by decide +kernel⟩, ki_OfficeholdersRoll_Years, ⟨List.mem_of_getElem? (i := 559) (by decide +kernel), by decide +kernel⟩, ⟨List.mem_of_getElem? (i := 13) (by decide +kernel), by decide +kernel⟩, ⟨by decide +kernel, by decide +kernel⟩, by decide +kernel⟩
theorem k_X4_wayBetween : q_okM yX4_wayBetween cX4_wayBetween 3 (some .int) 2 := ⟨⟨List.mem_of_getElem? (i := 564) (by decide +kernel), by decide +kernel⟩, ki_OfficeholdersRoll_Years, ⟨List.mem_of_getElem? (i := 563) (by decide +kernel), by decide +kernel⟩, ⟨List.mem_of_getElem? (i := 14) (by decide +kernel), by decide +kernel⟩, ⟨by decide +kernel, by decide +kernel⟩, by decide +kernel⟩
theorem k_X4_lengthenAllVia : q_okM yX4_lengthenAllVia cX4_lengthenAllVia 6 none 2 := ⟨⟨List.mem_of_getElem? (i := 568) (by decide +kernel), by decide +kernel⟩, ki_OfficeholdersRoll_Years, ⟨List.mem_of_getElem? (i := 567) (by decide +kernel), by decide +kernel⟩, ⟨List.mem_of_getElem? (i := 15) (by decide +kernel), by decide +kernel⟩, ⟨by decide +kernel, by decide +kernel⟩, by decide +kernel⟩
theorem k_X4_firstByWays : q_okM yX4_firstByWays cX4_firstByWays 5 (some .int) 1 := ⟨⟨List.mem_of_getElem? (i := 572) (by decide +kernel), by decide +kernel⟩, ki_OfficeholdersRoll_Years, ⟨List.mem_of_getElem? (i := 570) (by decide +kernel), by decide +kernel⟩, ⟨List.mem_of_getElem? (i := 571) (by decide +kernel), by decide +kernel⟩, ⟨by decide +kernel, by decide +kernel⟩, by decide +kernel⟩
theorem k_X5_seal : q_okM yX5_seal cX5_seal 3 (some .boolean) 2 := ⟨⟨List.mem_of_getElem? (i := 579) (by decide +kernel), by decide +kernel⟩, ki_OfficeholdersRoll, ⟨List.mem_of_getElem? (i := 577) (by decide +kernel), by decide +kernel⟩, ⟨List.mem_of_getElem? (i := 578) (by decide +kernel), by decide +kernel⟩, ⟨by decide +kernel, by decide +kernel⟩, by decide +kernel⟩
theorem k_X5_block : q_okM yX5_block cX5_block 4 (some .boolean) 3 := ⟨⟨List.mem_of_getElem? (i := 586) (by decide +kernel), by decide +kernel⟩, ki_OfficeholdersRoll, ⟨List.mem_of_getElem? (i := 584) (by decide +kernel), by decide +kernel⟩, ⟨List.mem_of_getElem? (i := 585) (by decide +kernel), by decide +kernel⟩, ⟨by decide +kernel, by decide +kernel⟩, by decide +kernel⟩
theorem k_X5_weight : q_okM yX5_weight cX5_weight 3 (some .int) 2 := ⟨⟨List.mem_of_getElem? (i := 593) (by decide +kernel), by decide +kernel⟩, ki_OfficeholdersRoll, ⟨List.mem_of_getElem? (i := 591) (by decide +kernel), by decide +kernel⟩, ⟨List.mem_of_getElem? (i := 592) (by decide +kernel), by decide +kernel⟩, ⟨by decide +kernel, by decide +kernel⟩, by decide +kernel⟩
theorem k_X5_weightOf : q_okM yX5_weightOf cX5_weightOf 4 (some .int) 2 := ⟨⟨List.mem_of_getElem? (i := 597) (by decide +kernel), by decide +kernel⟩, ki_OfficeholdersRoll, ⟨List.mem_of_getElem? (i := 596) (by decide +kernel), by decide +kernel⟩, ⟨List.mem_of_getElem? (i := 16) (by decide +kernel), by decide +kernel⟩, ⟨by decide +kernel, by decide +kernel⟩, by decide +kernel⟩
theorem k_X5_whyNot : q_okM yX5_whyNot cX5_whyNot 3 (some .int) 2 := ⟨⟨List.mem_of_getElem? (i := 605) (by decide +kernel), by decide +kernel⟩, ki_OfficeholdersRoll, ⟨List.mem_of_getElem? (i := 603) (by decide +kernel), by decide +kernel⟩, ⟨List.mem_of_getElem? (i := 604) (by decide +kernel), by decide +kernel⟩, ⟨by decide +kernel, by decide +kernel⟩, by decide +kernel⟩
theorem k_X5_reasonAgainst : q_okM yX5_reasonAgainst cX5_reasonAgainst 7 (some .int) 2 := ⟨⟨List.mem_of_getElem? (i := 609) (by decide +kernel), by decide +kernel⟩, ki_OfficeholdersRoll, ⟨List.mem_of_getElem? (i := 608) (by decide +kernel), by decide +kernel⟩, ⟨List.mem_of_getElem? (i := 17) (by decide +kernel), by decide +kernel⟩, ⟨by decide +kernel, by decide +kernel⟩, by decide +kernel⟩
theorem k_X5_reasonAgainstAny : q_okM yX5_reasonAgainstAny cX5_reasonAgainstAny 5 (some .int) 2 := ⟨⟨List.mem_of_getElem? (i := 613) (by decide +kernel), by decide +kernel⟩, ki_OfficeholdersRoll, ⟨List.mem_of_getElem? (i := 612) (by decide +kernel), by decide +kernel⟩, ⟨List.mem_of_getElem? (i := 18) (by decide +kernel), by decide +kernel⟩, ⟨by decide +kernel, by decide +kernel⟩, by decide +kernel⟩
theorem k_X5_reasonOfPair : q_okM yX5_reasonOfPair cX5_reasonOfPair 3 (some .int) 2 := ⟨⟨List.mem_of_getElem? (i := 617) (by decide +kernel), by decide +kernel⟩, ki_OfficeholdersRoll, ⟨List.mem_of_getElem? (i := 616) (by decide +kernel), by decide +kernel⟩, ⟨List.mem_of_getElem? (i := 19) (by decide +kernel), by decide +kernel⟩, ⟨by decide +kernel, by decide +kernel⟩, by decide +kernel⟩
theorem k_X5_haveOtherFamilies : q_okM yX5_haveOtherFamilies cX5_haveOtherFamilies 5 (some .boolean) 2 := ⟨⟨List.mem_of_getElem? (i := 621) (by decide +kernel), by decide +kernel⟩, ki_OfficeholdersRoll, ⟨List.mem_of_getElem? (i := 620) (by decide +kernel), by decide +kernel⟩, ⟨List.mem_of_getElem? (i := 20) (by decide +kernel), by decide +kernel⟩, ⟨by decide +kernel, by decide +kernel⟩, by decide +kernel⟩
theorem k_X5_areBarredAtOnce : q_okM yX5_areBarredAtOnce cX5_areBarredAtOnce 5 (some .boolean) 2 := ⟨⟨List.mem_of_getElem? (i := 625) (by decide +kernel), by decide +kernel⟩, ki_OfficeholdersRoll, ⟨List.mem_of_getElem? (i := 624) (by decide +kernel), by decide +kernel⟩, ⟨List.mem_of_getElem? (i := 21) (by decide +kernel), by decide +kernel⟩, ⟨by decide +kernel, by decide +kernel⟩, by decide +kernel⟩
theorem k_X4_isCertain : q_okM yX4_isCertain cX4_isCertain 2 (some .boolean) 1 := ⟨⟨List.mem_of_getElem? (i := 629) (by decide +kernel), by decide +kernel⟩, ki_OfficeholdersRoll_Years, ⟨List.mem_of_getElem? (i := 627) (by decide +kernel), by decide +kernel⟩, ⟨List.mem_of_getElem? (i := 628) (by decide +kernel), by decide +kernel⟩, ⟨by decide +kernel, by decide +kernel⟩, by decide +kernel⟩
theorem k_X5_join : q_okM yX5_join cX5_join 3 (some .int) 2 := ⟨⟨List.mem_of_getElem? (i := 637) (by decide +kernel), by decide +kernel⟩, ki_OfficeholdersRoll, ⟨List.mem_of_getElem? (i := 635) (by decide +kernel), by decide +kernel⟩, ⟨List.mem_of_getElem? (i := 636) (by decide +kernel), by decide +kernel⟩, ⟨by decide +kernel, by decide +kernel⟩, by decide +kernel⟩
theorem k_X2_unite : q_okM yX2_unite cX2_unite 6 (some .int) 2 := ⟨⟨List.mem_of_getElem? (i := 642) (by decide +kernel), by decide +kernel⟩, ki_OfficeholdersRoll_Persons, ⟨List.mem_of_getElem? (i := 640) (by decide +kernel), by decide +kernel⟩, ⟨List.mem_of_getElem? (i := 641) (by decide +kernel), by decide +kernel⟩, ⟨by decide +kernel, by decide +kernel⟩, by decide +kernel⟩
theorem k_X5_split : q_okM yX5_split cX5_split 2 (some .int) 1 := ⟨⟨List.mem_of_getElem? (i := 651) (by decide +kernel), by decide +kernel⟩, ki_OfficeholdersRoll, ⟨List.mem_of_getElem? (i := 649) (by decide +kernel), by decide +kernel⟩, ⟨List.mem_of_getElem? (i := 650) (by decide +kernel), by decide +kernel⟩, ⟨by decide +kernel, by decide +kernel⟩, by decide +kernel⟩
theorem k_X5_mentionsOf : q_okM yX5_mentionsOf cX5_mentionsOf 4 (some .int) 1 := ⟨⟨List.mem_of_getElem? (i := 655) (by decide +kernel), by decide +kernel⟩, ki_OfficeholdersRoll, ⟨List.mem_of_getElem? (i := 654) (by decide +kernel), by decide +kernel⟩, ⟨List.mem_of_getElem? (i := 22) (by decide +kernel), by decide +kernel⟩, ⟨by decide +kernel, by decide +kernel⟩, by decide +kernel⟩
theorem k_X5_person : q_okM yX5_person cX5_person 2 (some .int) 1 := ⟨⟨List.mem_of_getElem? (i := 663) (by decide +kernel), by decide +kernel⟩, ki_OfficeholdersRoll, ⟨List.mem_of_getElem? (i := 661) (by decide +kernel), by decide +kernel⟩, ⟨List.mem_of_getElem? (i := 662) (by decide +kernel), by decide +kernel⟩, ⟨by decide +kernel, by decide +kernel⟩, by decide +kernel⟩
theorem k_X5_entry : q_okM yX5_entry cX5_entry 2 (some .int) 1 := ⟨⟨List.mem_of_getElem? (i := 670) (by decide +kernel), by decide +kernel⟩, ki_OfficeholdersRoll, ⟨List.mem_of_getElem? (i := 668) (by decide +kernel), by decide +kernel⟩, ⟨List.mem_of_getElem? (i := 669) (by decide +kernel), by decide +kernel⟩, ⟨by decide +kernel, by decide +kernel⟩, by decide +kernel⟩
theorem k_X5_needPerson : q_okM yX5_needPerson cX5_needPerson 2 none 1 := ⟨⟨List.mem_of_getElem? (i := 674) (by decide +kernel), by decide +kernel⟩, ki_OfficeholdersRoll, ⟨List.mem_of_getElem? (i := 673) (by decide +kernel), by decide +kernel⟩, ⟨List.mem_of_getElem? (i := 23) (by decide +kernel), by decide +kernel⟩, ⟨by decide +kernel, by decide +kernel⟩, by decide +kernel⟩
theorem k_X2_leadOf : q_okM yX2_leadOf cX2_leadOf 2 (some .int) 1 := ⟨⟨List.mem_of_getElem? (i := 679) (by decide +kernel), by decide +kernel⟩, ki_OfficeholdersRoll_Persons, ⟨List.mem_of_getElem? (i := 677) (by decide +kernel), by decide +kernel⟩, ⟨List.mem_of_getElem? (i := 678) (by decide +kernel), by decide +kernel⟩, ⟨by decide +kernel, by decide +kernel⟩, by decide +kernel⟩
theorem k_X5_size : q_okM yX5_size cX5_size 2 (some .int) 1 := ⟨⟨List.mem_of_getElem? (i := 686) (by decide +kernel), by decide +kernel⟩, ki_OfficeholdersRoll, ⟨List.mem_of_getElem? (i := 684) (by decide +kernel), by decide +kernel⟩, ⟨List.mem_of_getElem? (i := 685) (by decide +kernel), by decide +kernel⟩, ⟨by decide +kernel, by decide +kernel⟩, by decide +kernel⟩
theorem k_X5_careerAt : q_okM yX5_careerAt cX5_careerAt 4 (some .int) 2 := ⟨⟨List.mem_of_getElem? (i := 693) (by decide +kernel), by decide +kernel⟩, ki_OfficeholdersRoll, ⟨List.mem_of_getElem? (i := 691) (by decide +kernel), by decide +kernel⟩, ⟨List.mem_of_getElem? (i := 692) (by decide +kernel), by decide +kernel⟩, ⟨by decide +kernel, by decide +kernel⟩, by decide +kernel⟩
theorem k_X5_layOutCareer : q_okM yX5_layOutCareer cX5_layOutCareer 4 (some .int) 1 := ⟨⟨List.mem_of_getElem? (i := 698) (by decide +kernel), by decide +kernel⟩, ki_OfficeholdersRoll, ⟨List.mem_of_getElem? (i := 697) (by decide +kernel), by decide +kernel⟩, ⟨List.mem_of_getElem? (i := 24) (by decide +kernel), by decide +kernel⟩, ⟨by decide +kernel, by decide +kernel⟩, by decide +kernel⟩
theorem k_X5_putInCareer : q_okM yX5_putInCareer cX5_putInCareer 4 none 2 := ⟨⟨List.mem_of_getElem? (i := 702) (by decide +kernel), by decide +kernel⟩, ki_OfficeholdersRoll, ⟨List.mem_of_getElem? (i := 701) (by decide +kernel), by decide +kernel⟩, ⟨List.mem_of_getElem? (i := 25) (by decide +kernel), by decide +kernel⟩, ⟨by decide +kernel, by decide +kernel⟩, by decide +kernel⟩
theorem k_X5_breaches : q_okM yX5_breaches cX5_breaches 5 (some .int) 1 := ⟨⟨List.mem_of_getElem? (i := 709) (by decide +kernel), by decide +kernel⟩, ki_OfficeholdersRoll, ⟨List.mem_of_getElem? (i := 707) (by decide +kernel), by decide +kernel⟩, ⟨List.mem_of_getElem? (i := 708) (by decide +kernel), by decide +kernel⟩, ⟨by decide +kernel, by decide +kernel⟩, by decide +kernel⟩
theorem k_X5_rankAt : q_okM yX5_rankAt cX5_rankAt 2 (some .int) 1 := ⟨⟨List.mem_of_getElem? (i := 713) (by decide +kernel), by decide +kernel⟩, ki_OfficeholdersRoll, ⟨List.mem_of_getElem? (i := 712) (by decide +kernel), by decide +kernel⟩, ⟨List.mem_of_getElem? (i := 26) (by decide +kernel), by decide +kernel⟩, ⟨by decide +kernel, by decide +kernel⟩, by decide +kernel⟩
theorem k_X5_kin : q_okM yX5_kin cX5_kin 3 (some .boolean) 2 := ⟨⟨List.mem_of_getElem? (i := 720) (by decide +kernel), by decide +kernel⟩, ki_OfficeholdersRoll, ⟨List.mem_of_getElem? (i := 718) (by decide +kernel), by decide +kernel⟩, ⟨List.mem_of_getElem? (i := 719) (by decide +kernel), by decide +kernel⟩, ⟨by decide +kernel, by decide +kernel⟩, by decide +kernel⟩
theorem k_X5_degree : q_okM yX5_degree cX5_degree 3 (some .int) 2 := ⟨⟨List.mem_of_getElem? (i := 727) (by decide +kernel), by decide +kernel⟩, ki_OfficeholdersRoll, ⟨List.mem_of_getElem? (i := 725) (by decide +kernel), by decide +kernel⟩, ⟨List.mem_of_getElem? (i := 726) (by decide +kernel), by decide +kernel⟩, ⟨by decide +kernel, by decide +kernel⟩, by decide +kernel⟩
theorem k_X5_stepsBetween : q_okM yX5_stepsBetween cX5_stepsBetween 4 (some .int) 2 := ⟨⟨List.mem_of_getElem? (i := 731) (by decide +kernel), by decide +kernel⟩, ki_OfficeholdersRoll, ⟨List.mem_of_getElem? (i := 730) (by decide +kernel), by decide +kernel⟩, ⟨List.mem_of_getElem? (i := 27) (by decide +kernel), by decide +kernel⟩, ⟨by decide +kernel, by decide +kernel⟩, by decide +kernel⟩
theorem k_X5_stepOn : q_okM yX5_stepOn cX5_stepOn 3 none 1 := ⟨⟨List.mem_of_getElem? (i := 736) (by decide +kernel), by decide +kernel⟩, ki_OfficeholdersRoll, ⟨List.mem_of_getElem? (i := 735) (by decide +kernel), by decide +kernel⟩, ⟨List.mem_of_getElem? (i := 28) (by decide +kernel), by decide +kernel⟩, ⟨by decide +kernel, by decide +kernel⟩, by decide +kernel⟩
theorem k_X5_reachKinOf : q_okM yX5_reachKinOf cX5_reachKinOf 5 none 2 := ⟨⟨List.mem_of_getElem? (i := 740) (by decide +kernel), by decide +kernel⟩, ki_OfficeholdersRoll, ⟨List.mem_of_getElem? (i := 739) (by decide +kernel), by decide +kernel⟩, ⟨List.mem_of_getElem? (i := 29) (by decide +kernel), by decide +kernel⟩, ⟨by decide +kernel, by decide +kernel⟩, by decide +kernel⟩
theorem k_X5_best : q_okM yX5_best cX5_best 2 (some .int) 1 := ⟨⟨List.mem_of_getElem? (i := 747) (by decide +kernel), by decide +kernel⟩, ki_OfficeholdersRoll, ⟨List.mem_of_getElem? (i := 745) (by decide +kernel), by decide +kernel⟩, ⟨List.mem_of_getElem? (i := 746) (by decide +kernel), by decide +kernel⟩, ⟨by decide +kernel, by decide +kernel⟩, by decide +kernel⟩
theorem k_X5_needFewMentions : q_okM yX5_needFewMentions cX5_needFewMentions 2 none 1 := ⟨⟨List.mem_of_getElem? (i := 751) (by decide +kernel), by decide +kernel⟩, ki_OfficeholdersRoll, ⟨List.mem_of_getElem? (i := 750) (by decide +kernel), by decide +kernel⟩, ⟨List.mem_of_getElem? (i := 30) (by decide +kernel), by decide +kernel⟩, ⟨by decide +kernel, by decide +kernel⟩, by decide +kernel⟩
theorem k_J6_bitCount_0f7a4 : q_okS yJ6_bitCount_0f7a4 cJ6_bitCount_0f7a4 1 (some .int) 1 := ⟨⟨List.mem_of_getElem? (i := 755) (by decide +kernel), by decide +kernel⟩, ki_java_lang_Integer, ⟨List.mem_of_getElem? (i := 754) (by decide +kernel), by decide +kernel⟩, ⟨by decide +kernel, by decide +kernel⟩, by decide +kernel⟩
theorem k_X5_layOutPairs : q_okM yX5_layOutPairs cX5_layOutPairs 5 none 1 := ⟨⟨List.mem_of_getElem? (i := 762) (by decide +kernel), by decide +kernel⟩, ki_OfficeholdersRoll, ⟨List.mem_of_getElem? (i := 761) (by decide +kernel), by decide +kernel⟩, ⟨List.mem_of_getElem? (i := 31) (by decide +kernel), by decide +kernel⟩, ⟨by decide +kernel, by decide +kernel⟩, by decide +kernel⟩
theorem k_X0_clear : q_okM yX0_clear cX0_clear 1 none 0 := ⟨⟨List.mem_of_getElem? (i := 766) (by decide +kernel), by decide +kernel⟩, ki_OfficeholdersRoll_Groupings, ⟨List.mem_of_getElem? (i := 764) (by decide +kernel), by decide +kernel⟩, ⟨List.mem_of_getElem? (i := 765) (by decide +kernel), by decide +kernel⟩, ⟨by decide +kernel, by decide +kernel⟩, by decide +kernel⟩
theorem k_X0_add : q_okM yX0_add cX0_add 2 none 1 := ⟨⟨List.mem_of_getElem? (i := 770) (by decide +kernel), by decide +kernel⟩, ki_OfficeholdersRoll_Groupings, ⟨List.mem_of_getElem? (i := 768) (by decide +kernel), by decide +kernel⟩, ⟨List.mem_of_getElem? (i := 769) (by decide +kernel), by decide +kernel⟩, ⟨by decide +kernel, by decide +kernel⟩, by decide +kernel⟩
theorem k_X0_count : q_okM yX0_count cX0_count 1 (some .int) 0 := ⟨⟨List.mem_of_getElem? (i := 775) (by decide +kernel), by decide +kernel⟩, ki_OfficeholdersRoll_Groupings, ⟨List.mem_of_getElem? (i := 773) (by decide +kernel), by decide +kernel⟩, ⟨List.mem_of_getElem? (i := 774) (by decide +kernel), by decide +kernel⟩, ⟨by decide +kernel, by decide +kernel⟩, by decide +kernel⟩
theorem k_X0_mentionAt : q_okM yX0_mentionAt cX0_mentionAt 2 (some .int) 1 := ⟨⟨List.mem_of_getElem? (i := 779) (by decide +kernel), by decide +kernel⟩, ki_OfficeholdersRoll_Groupings, ⟨List.mem_of_getElem? (i := 777) (by decide +kernel), by decide +kernel⟩, ⟨List.mem_of_getElem? (i := 778) (by decide +kernel), by decide +kernel⟩, ⟨by decide +kernel, by decide +kernel⟩, by decide +kernel⟩
theorem k_X5_worthOfPair : q_okM yX5_worthOfPair cX5_worthOfPair 3 (some .int) 2 := ⟨⟨List.mem_of_getElem? (i := 784) (by decide +kernel), by decide +kernel⟩, ki_OfficeholdersRoll, ⟨List.mem_of_getElem? (i := 783) (by decide +kernel), by decide +kernel⟩, ⟨List.mem_of_getElem? (i := 32) (by decide +kernel), by decide +kernel⟩, ⟨by decide +kernel, by decide +kernel⟩, by decide +kernel⟩
theorem k_X0_putWorth : q_okM yX0_putWorth cX0_putWorth 4 none 3 := ⟨⟨List.mem_of_getElem? (i := 789) (by decide +kernel), by decide +kernel⟩, ki_OfficeholdersRoll_Groupings, ⟨List.mem_of_getElem? (i := 787) (by decide +kernel), by decide +kernel⟩, ⟨List.mem_of_getElem? (i := 788) (by decide +kernel), by decide +kernel⟩, ⟨by decide +kernel, by decide +kernel⟩, by decide +kernel⟩
theorem k_X0_bestByParts : q_okM yX0_bestByParts cX0_bestByParts 3 (some .int) 0 := ⟨⟨List.mem_of_getElem? (i := 793) (by decide +kernel), by decide +kernel⟩, ki_OfficeholdersRoll_Groupings, ⟨List.mem_of_getElem? (i := 791) (by decide +kernel), by decide +kernel⟩, ⟨List.mem_of_getElem? (i := 792) (by decide +kernel), by decide +kernel⟩, ⟨by decide +kernel, by decide +kernel⟩, by decide +kernel⟩
theorem k_X0_worthOfGroup : q_okM yX0_worthOfGroup cX0_worthOfGroup 6 (some .int) 1 := ⟨⟨List.mem_of_getElem? (i := 797) (by decide +kernel), by decide +kernel⟩, ki_OfficeholdersRoll_Groupings, ⟨List.mem_of_getElem? (i := 796) (by decide +kernel), by decide +kernel⟩, ⟨List.mem_of_getElem? (i := 33) (by decide +kernel), by decide +kernel⟩, ⟨by decide +kernel, by decide +kernel⟩, by decide +kernel⟩
theorem k_X0_pairWorth : q_okM yX0_pairWorth cX0_pairWorth 3 (some .int) 2 := ⟨⟨List.mem_of_getElem? (i := 801) (by decide +kernel), by decide +kernel⟩, ki_OfficeholdersRoll_Groupings, ⟨List.mem_of_getElem? (i := 800) (by decide +kernel), by decide +kernel⟩, ⟨List.mem_of_getElem? (i := 34) (by decide +kernel), by decide +kernel⟩, ⟨by decide +kernel, by decide +kernel⟩, by decide +kernel⟩
theorem k_X0_bestOfSet : q_okM yX0_bestOfSet cX0_bestOfSet 6 (some .int) 1 := ⟨⟨List.mem_of_getElem? (i := 806) (by decide +kernel), by decide +kernel⟩, ki_OfficeholdersRoll_Groupings, ⟨List.mem_of_getElem? (i := 805) (by decide +kernel), by decide +kernel⟩, ⟨List.mem_of_getElem? (i := 35) (by decide +kernel), by decide +kernel⟩, ⟨by decide +kernel, by decide +kernel⟩, by decide +kernel⟩
theorem k_X5_bestAnew : q_okM yX5_bestAnew cX5_bestAnew 2 (some .int) 1 := ⟨⟨List.mem_of_getElem? (i := 814) (by decide +kernel), by decide +kernel⟩, ki_OfficeholdersRoll, ⟨List.mem_of_getElem? (i := 812) (by decide +kernel), by decide +kernel⟩, ⟨List.mem_of_getElem? (i := 813) (by decide +kernel), by decide +kernel⟩, ⟨by decide +kernel, by decide +kernel⟩, by decide +kernel⟩
theorem k_X0_bestOfAll : q_okM yX0_bestOfAll cX0_bestOfAll 3 (some .int) 0 := ⟨⟨List.mem_of_getElem? (i := 818) (by decide +kernel), by decide +kernel⟩, ki_OfficeholdersRoll_Groupings, ⟨List.mem_of_getElem? (i := 816) (by decide +kernel), by decide +kernel⟩, ⟨List.mem_of_getElem? (i := 817) (by decide +kernel), by decide +kernel⟩, ⟨by decide +kernel, by decide +kernel⟩, by decide +kernel⟩
theorem k_X0_worthOfGrouping : q_okM yX0_worthOfGrouping cX0_worthOfGrouping 5 (some .int) 0 := ⟨⟨List.mem_of_getElem? (i := 823) (by decide +kernel), by decide +kernel⟩, ki_OfficeholdersRoll_Groupings, ⟨List.mem_of_getElem? (i := 822) (by decide +kernel), by decide +kernel⟩, ⟨List.mem_of_getElem? (i := 36) (by decide +kernel), by decide +kernel⟩, ⟨by decide +kernel, by decide +kernel⟩, by decide +kernel⟩
theorem k_X0_goOnToNext : q_okM yX0_goOnToNext cX0_goOnToNext 2 (some .boolean) 0 := ⟨⟨List.mem_of_getElem? (i := 827) (by decide +kernel), by decide +kernel⟩, ki_OfficeholdersRoll_Groupings, ⟨List.mem_of_getElem? (i := 826) (by decide +kernel), by decide +kernel⟩, ⟨List.mem_of_getElem? (i := 37) (by decide +kernel), by decide +kernel⟩, ⟨by decide +kernel, by decide +kernel⟩, by decide +kernel⟩
theorem k_X0_greatestGroupBefore : q_okM yX0_greatestGroupBefore cX0_greatestGroupBefore 4 (some .int) 1 := ⟨⟨List.mem_of_getElem? (i := 831) (by decide +kernel), by decide +kernel⟩, ki_OfficeholdersRoll_Groupings, ⟨List.mem_of_getElem? (i := 830) (by decide +kernel), by decide +kernel⟩, ⟨List.mem_of_getElem? (i := 38) (by decide +kernel), by decide +kernel⟩, ⟨by decide +kernel, by decide +kernel⟩, by decide +kernel⟩
theorem k_X5_rival : q_okM yX5_rival cX5_rival 4 (some .int) 2 := ⟨⟨List.mem_of_getElem? (i := 838) (by decide +kernel), by decide +kernel⟩, ki_OfficeholdersRoll, ⟨List.mem_of_getElem? (i := 836) (by decide +kernel), by decide +kernel⟩, ⟨List.mem_of_getElem? (i := 837) (by decide +kernel), by decide +kernel⟩, ⟨by decide +kernel, by decide +kernel⟩, by decide +kernel⟩
theorem k_X6_init : q_okI yX6_init cX6_init 2 0 := ⟨⟨List.mem_of_getElem? (i := 843) (by decide +kernel), by decide +kernel⟩, ki_OfficeholdersRollModel, ⟨List.mem_of_getElem? (i := 842) (by decide +kernel), by decide +kernel⟩, rfl, ⟨by decide +kernel, by decide +kernel⟩, by decide +kernel⟩
theorem k_X6_thrown : q_okM yX6_thrown cX6_thrown 1 (some .int) 0 := ⟨⟨List.mem_of_getElem? (i := 933) (by decide +kernel), by decide +kernel⟩, ki_OfficeholdersRollModel, ⟨List.mem_of_getElem? (i := 931) (by decide +kernel), by decide +kernel⟩, ⟨List.mem_of_getElem? (i := 932) (by decide +kernel), by decide +kernel⟩, ⟨by decide +kernel, by decide +kernel⟩, by decide +kernel⟩
theorem k_X6_mention : q_okM yX6_mention cX6_mention 6 (some .int) 4 := ⟨⟨List.mem_of_getElem? (i := 937) (by decide +kernel), by decide +kernel⟩, ki_OfficeholdersRollModel, ⟨List.mem_of_getElem? (i := 935) (by decide +kernel), by decide +kernel⟩, ⟨List.mem_of_getElem? (i := 936) (by decide +kernel), by decide +kernel⟩, ⟨by decide +kernel, by decide +kernel⟩, by decide +kernel⟩
theorem k_X6_isIn : q_okS yX6_isIn cX6_isIn 3 (some .boolean) 3 := ⟨⟨List.mem_of_getElem? (i := 940) (by decide +kernel), by decide +kernel⟩, ki_OfficeholdersRollModel, ⟨List.mem_of_getElem? (i := 939) (by decide +kernel), by decide +kernel⟩, ⟨by decide +kernel, by decide +kernel⟩, by decide +kernel⟩
theorem k_X6_isPost : q_okS yX6_isPost cX6_isPost 1 (some .boolean) 1 := ⟨⟨List.mem_of_getElem? (i := 943) (by decide +kernel), by decide +kernel⟩, ki_OfficeholdersRollModel, ⟨List.mem_of_getElem? (i := 942) (by decide +kernel), by decide +kernel⟩, ⟨by decide +kernel, by decide +kernel⟩, by decide +kernel⟩
theorem k_X6_adds : q_okM yX6_adds cX6_adds 2 (some .int) 1 := ⟨⟨List.mem_of_getElem? (i := 947) (by decide +kernel), by decide +kernel⟩, ki_OfficeholdersRollModel, ⟨List.mem_of_getElem? (i := 946) (by decide +kernel), by decide +kernel⟩, ⟨List.mem_of_getElem? (i := 39) (by decide +kernel), by decide +kernel⟩, ⟨by decide +kernel, by decide +kernel⟩, by decide +kernel⟩
theorem k_X6_rank : q_okM yX6_rank cX6_rank 4 (some .int) 2 := ⟨⟨List.mem_of_getElem? (i := 951) (by decide +kernel), by decide +kernel⟩, ki_OfficeholdersRollModel, ⟨List.mem_of_getElem? (i := 949) (by decide +kernel), by decide +kernel⟩, ⟨List.mem_of_getElem? (i := 950) (by decide +kernel), by decide +kernel⟩, ⟨by decide +kernel, by decide +kernel⟩, by decide +kernel⟩
theorem k_X6_bar : q_okM yX6_bar cX6_bar 5 (some .boolean) 3 := ⟨⟨List.mem_of_getElem? (i := 955) (by decide +kernel), by decide +kernel⟩, ki_OfficeholdersRollModel, ⟨List.mem_of_getElem? (i := 953) (by decide +kernel), by decide +kernel⟩, ⟨List.mem_of_getElem? (i := 954) (by decide +kernel), by decide +kernel⟩, ⟨by decide +kernel, by decide +kernel⟩, by decide +kernel⟩
theorem k_X6_has : q_okS yX6_has cX6_has 2 (some .boolean) 2 := ⟨⟨List.mem_of_getElem? (i := 958) (by decide +kernel), by decide +kernel⟩, ki_OfficeholdersRollModel, ⟨List.mem_of_getElem? (i := 957) (by decide +kernel), by decide +kernel⟩, ⟨by decide +kernel, by decide +kernel⟩, by decide +kernel⟩
theorem k_X6_ahead : q_okM yX6_ahead cX6_ahead 5 (some .int) 3 := ⟨⟨List.mem_of_getElem? (i := 962) (by decide +kernel), by decide +kernel⟩, ki_OfficeholdersRollModel, ⟨List.mem_of_getElem? (i := 960) (by decide +kernel), by decide +kernel⟩, ⟨List.mem_of_getElem? (i := 961) (by decide +kernel), by decide +kernel⟩, ⟨by decide +kernel, by decide +kernel⟩, by decide +kernel⟩
theorem k_X6_isMention : q_okM yX6_isMention cX6_isMention 2 (some .boolean) 1 := ⟨⟨List.mem_of_getElem? (i := 966) (by decide +kernel), by decide +kernel⟩, ki_OfficeholdersRollModel, ⟨List.mem_of_getElem? (i := 965) (by decide +kernel), by decide +kernel⟩, ⟨List.mem_of_getElem? (i := 40) (by decide +kernel), by decide +kernel⟩, ⟨by decide +kernel, by decide +kernel⟩, by decide +kernel⟩
theorem k_X6_dates : q_okM yX6_dates cX6_dates 6 (some .boolean) 0 := ⟨⟨List.mem_of_getElem? (i := 970) (by decide +kernel), by decide +kernel⟩, ki_OfficeholdersRollModel, ⟨List.mem_of_getElem? (i := 969) (by decide +kernel), by decide +kernel⟩, ⟨List.mem_of_getElem? (i := 41) (by decide +kernel), by decide +kernel⟩, ⟨by decide +kernel, by decide +kernel⟩, by decide +kernel⟩
theorem k_X6_moves : q_okM yX6_moves cX6_moves 3 (some .int) 0 := ⟨⟨List.mem_of_getElem? (i := 974) (by decide +kernel), by decide +kernel⟩, ki_OfficeholdersRollModel, ⟨List.mem_of_getElem? (i := 973) (by decide +kernel), by decide +kernel⟩, ⟨List.mem_of_getElem? (i := 42) (by decide +kernel), by decide +kernel⟩, ⟨by decide +kernel, by decide +kernel⟩, by decide +kernel⟩
theorem k_X6_keeps : q_okM yX6_keeps cX6_keeps 2 none 0 := ⟨⟨List.mem_of_getElem? (i := 978) (by decide +kernel), by decide +kernel⟩, ki_OfficeholdersRollModel, ⟨List.mem_of_getElem? (i := 977) (by decide +kernel), by decide +kernel⟩, ⟨List.mem_of_getElem? (i := 43) (by decide +kernel), by decide +kernel⟩, ⟨by decide +kernel, by decide +kernel⟩, by decide +kernel⟩
theorem k_X6_find : q_okM yX6_find cX6_find 5 (some .int) 3 := ⟨⟨List.mem_of_getElem? (i := 982) (by decide +kernel), by decide +kernel⟩, ki_OfficeholdersRollModel, ⟨List.mem_of_getElem? (i := 980) (by decide +kernel), by decide +kernel⟩, ⟨List.mem_of_getElem? (i := 981) (by decide +kernel), by decide +kernel⟩, ⟨by decide +kernel, by decide +kernel⟩, by decide +kernel⟩
theorem k_X6_areYears : q_okM yX6_areYears cX6_areYears 3 (some .boolean) 2 := ⟨⟨List.mem_of_getElem? (i := 986) (by decide +kernel), by decide +kernel⟩, ki_OfficeholdersRollModel, ⟨List.mem_of_getElem? (i := 985) (by decide +kernel), by decide +kernel⟩, ⟨List.mem_of_getElem? (i := 44) (by decide +kernel), by decide +kernel⟩, ⟨by decide +kernel, by decide +kernel⟩, by decide +kernel⟩
theorem k_X6_finds : q_okM yX6_finds cX6_finds 8 (some .int) 4 := ⟨⟨List.mem_of_getElem? (i := 990) (by decide +kernel), by decide +kernel⟩, ki_OfficeholdersRollModel, ⟨List.mem_of_getElem? (i := 989) (by decide +kernel), by decide +kernel⟩, ⟨List.mem_of_getElem? (i := 45) (by decide +kernel), by decide +kernel⟩, ⟨by decide +kernel, by decide +kernel⟩, by decide +kernel⟩
theorem k_X6_wouldMove : q_okM yX6_wouldMove cX6_wouldMove 4 (some .int) 3 := ⟨⟨List.mem_of_getElem? (i := 994) (by decide +kernel), by decide +kernel⟩, ki_OfficeholdersRollModel, ⟨List.mem_of_getElem? (i := 992) (by decide +kernel), by decide +kernel⟩, ⟨List.mem_of_getElem? (i := 993) (by decide +kernel), by decide +kernel⟩, ⟨by decide +kernel, by decide +kernel⟩, by decide +kernel⟩
theorem k_X6_year : q_okM yX6_year cX6_year 3 (some .int) 2 := ⟨⟨List.mem_of_getElem? (i := 998) (by decide +kernel), by decide +kernel⟩, ki_OfficeholdersRollModel, ⟨List.mem_of_getElem? (i := 996) (by decide +kernel), by decide +kernel⟩, ⟨List.mem_of_getElem? (i := 997) (by decide +kernel), by decide +kernel⟩, ⟨by decide +kernel, by decide +kernel⟩, by decide +kernel⟩
theorem k_X6_tellsYear : q_okM yX6_tellsYear cX6_tellsYear 3 (some .int) 2 := ⟨⟨List.mem_of_getElem? (i := 1002) (by decide +kernel), by decide +kernel⟩, ki_OfficeholdersRollModel, ⟨List.mem_of_getElem? (i := 1001) (by decide +kernel), by decide +kernel⟩, ⟨List.mem_of_getElem? (i := 46) (by decide +kernel), by decide +kernel⟩, ⟨by decide +kernel, by decide +kernel⟩, by decide +kernel⟩
theorem k_X6_yearAnew : q_okM yX6_yearAnew cX6_yearAnew 3 (some .int) 2 := ⟨⟨List.mem_of_getElem? (i := 1006) (by decide +kernel), by decide +kernel⟩, ki_OfficeholdersRollModel, ⟨List.mem_of_getElem? (i := 1004) (by decide +kernel), by decide +kernel⟩, ⟨List.mem_of_getElem? (i := 1005) (by decide +kernel), by decide +kernel⟩, ⟨by decide +kernel, by decide +kernel⟩, by decide +kernel⟩
theorem k_X6_seal : q_okM yX6_seal cX6_seal 4 (some .boolean) 2 := ⟨⟨List.mem_of_getElem? (i := 1010) (by decide +kernel), by decide +kernel⟩, ki_OfficeholdersRollModel, ⟨List.mem_of_getElem? (i := 1008) (by decide +kernel), by decide +kernel⟩, ⟨List.mem_of_getElem? (i := 1009) (by decide +kernel), by decide +kernel⟩, ⟨by decide +kernel, by decide +kernel⟩, by decide +kernel⟩
theorem k_X6_asksTwo : q_okM yX6_asksTwo cX6_asksTwo 3 (some .boolean) 2 := ⟨⟨List.mem_of_getElem? (i := 1014) (by decide +kernel), by decide +kernel⟩, ki_OfficeholdersRollModel, ⟨List.mem_of_getElem? (i := 1013) (by decide +kernel), by decide +kernel⟩, ⟨List.mem_of_getElem? (i := 47) (by decide +kernel), by decide +kernel⟩, ⟨by decide +kernel, by decide +kernel⟩, by decide +kernel⟩
theorem k_X6_block : q_okM yX6_block cX6_block 5 (some .boolean) 3 := ⟨⟨List.mem_of_getElem? (i := 1018) (by decide +kernel), by decide +kernel⟩, ki_OfficeholdersRollModel, ⟨List.mem_of_getElem? (i := 1016) (by decide +kernel), by decide +kernel⟩, ⟨List.mem_of_getElem? (i := 1017) (by decide +kernel), by decide +kernel⟩, ⟨by decide +kernel, by decide +kernel⟩, by decide +kernel⟩
theorem k_X6_weight : q_okM yX6_weight cX6_weight 3 (some .int) 2 := ⟨⟨List.mem_of_getElem? (i := 1022) (by decide +kernel), by decide +kernel⟩, ki_OfficeholdersRollModel, ⟨List.mem_of_getElem? (i := 1020) (by decide +kernel), by decide +kernel⟩, ⟨List.mem_of_getElem? (i := 1021) (by decide +kernel), by decide +kernel⟩, ⟨by decide +kernel, by decide +kernel⟩, by decide +kernel⟩
theorem k_X6_weightOf : q_okM yX6_weightOf cX6_weightOf 4 (some .int) 2 := ⟨⟨List.mem_of_getElem? (i := 1026) (by decide +kernel), by decide +kernel⟩, ki_OfficeholdersRollModel, ⟨List.mem_of_getElem? (i := 1025) (by decide +kernel), by decide +kernel⟩, ⟨List.mem_of_getElem? (i := 48) (by decide +kernel), by decide +kernel⟩, ⟨by decide +kernel, by decide +kernel⟩, by decide +kernel⟩
theorem k_X6_whyNot : q_okM yX6_whyNot cX6_whyNot 3 (some .int) 2 := ⟨⟨List.mem_of_getElem? (i := 1030) (by decide +kernel), by decide +kernel⟩, ki_OfficeholdersRollModel, ⟨List.mem_of_getElem? (i := 1028) (by decide +kernel), by decide +kernel⟩, ⟨List.mem_of_getElem? (i := 1029) (by decide +kernel), by decide +kernel⟩, ⟨by decide +kernel, by decide +kernel⟩, by decide +kernel⟩
theorem k_X6_reason : q_okM yX6_reason cX6_reason 4 (some .int) 2 := ⟨⟨List.mem_of_getElem? (i := 1034) (by decide +kernel), by decide +kernel⟩, ki_OfficeholdersRollModel, ⟨List.mem_of_getElem? (i := 1033) (by decide +kernel), by decide +kernel⟩, ⟨List.mem_of_getElem? (i := 49) (by decide +kernel), by decide +kernel⟩, ⟨by decide +kernel, by decide +kernel⟩, by decide +kernel⟩
theorem k_X6_hasReason : q_okM yX6_hasReason cX6_hasReason 7 (some .boolean) 3 := ⟨⟨List.mem_of_getElem? (i := 1038) (by decide +kernel), by decide +kernel⟩, ki_OfficeholdersRollModel, ⟨List.mem_of_getElem? (i := 1037) (by decide +kernel), by decide +kernel⟩, ⟨List.mem_of_getElem? (i := 50) (by decide +kernel), by decide +kernel⟩, ⟨by decide +kernel, by decide +kernel⟩, by decide +kernel⟩
theorem k_X6_areOfUnlikeFamilies : q_okM yX6_areOfUnlikeFamilies cX6_areOfUnlikeFamilies 3 (some .boolean) 2 := ⟨⟨List.mem_of_getElem? (i := 1042) (by decide +kernel), by decide +kernel⟩, ki_OfficeholdersRollModel, ⟨List.mem_of_getElem? (i := 1041) (by decide +kernel), by decide +kernel⟩, ⟨List.mem_of_getElem? (i := 51) (by decide +kernel), by decide +kernel⟩, ⟨by decide +kernel, by decide +kernel⟩, by decide +kernel⟩
theorem k_X6_areBarred : q_okM yX6_areBarred cX6_areBarred 4 (some .boolean) 2 := ⟨⟨List.mem_of_getElem? (i := 1046) (by decide +kernel), by decide +kernel⟩, ki_OfficeholdersRollModel, ⟨List.mem_of_getElem? (i := 1045) (by decide +kernel), by decide +kernel⟩, ⟨List.mem_of_getElem? (i := 52) (by decide +kernel), by decide +kernel⟩, ⟨by decide +kernel, by decide +kernel⟩, by decide +kernel⟩
theorem k_X6_join : q_okM yX6_join cX6_join 8 (some .int) 2 := ⟨⟨List.mem_of_getElem? (i := 1050) (by decide +kernel), by decide +kernel⟩, ki_OfficeholdersRollModel, ⟨List.mem_of_getElem? (i := 1048) (by decide +kernel), by decide +kernel⟩, ⟨List.mem_of_getElem? (i := 1049) (by decide +kernel), by decide +kernel⟩, ⟨by decide +kernel, by decide +kernel⟩, by decide +kernel⟩
theorem k_X6_split : q_okM yX6_split cX6_split 2 (some .int) 1 := ⟨⟨List.mem_of_getElem? (i := 1054) (by decide +kernel), by decide +kernel⟩, ki_OfficeholdersRollModel, ⟨List.mem_of_getElem? (i := 1052) (by decide +kernel), by decide +kernel⟩, ⟨List.mem_of_getElem? (i := 1053) (by decide +kernel), by decide +kernel⟩, ⟨by decide +kernel, by decide +kernel⟩, by decide +kernel⟩
theorem k_X6_sizeOf : q_okM yX6_sizeOf cX6_sizeOf 4 (some .int) 1 := ⟨⟨List.mem_of_getElem? (i := 1058) (by decide +kernel), by decide +kernel⟩, ki_OfficeholdersRollModel, ⟨List.mem_of_getElem? (i := 1057) (by decide +kernel), by decide +kernel⟩, ⟨List.mem_of_getElem? (i := 53) (by decide +kernel), by decide +kernel⟩, ⟨by decide +kernel, by decide +kernel⟩, by decide +kernel⟩
theorem k_X6_person : q_okM yX6_person cX6_person 2 (some .int) 1 := ⟨⟨List.mem_of_getElem? (i := 1062) (by decide +kernel), by decide +kernel⟩, ki_OfficeholdersRollModel, ⟨List.mem_of_getElem? (i := 1060) (by decide +kernel), by decide +kernel⟩, ⟨List.mem_of_getElem? (i := 1061) (by decide +kernel), by decide +kernel⟩, ⟨by decide +kernel, by decide +kernel⟩, by decide +kernel⟩
theorem k_X6_entry : q_okM yX6_entry cX6_entry 2 (some .int) 1 := ⟨⟨List.mem_of_getElem? (i := 1066) (by decide +kernel), by decide +kernel⟩, ki_OfficeholdersRollModel, ⟨List.mem_of_getElem? (i := 1064) (by decide +kernel), by decide +kernel⟩, ⟨List.mem_of_getElem? (i := 1065) (by decide +kernel), by decide +kernel⟩, ⟨by decide +kernel, by decide +kernel⟩, by decide +kernel⟩
theorem k_X6_isPerson : q_okM yX6_isPerson cX6_isPerson 2 (some .boolean) 1 := ⟨⟨List.mem_of_getElem? (i := 1070) (by decide +kernel), by decide +kernel⟩, ki_OfficeholdersRollModel, ⟨List.mem_of_getElem? (i := 1069) (by decide +kernel), by decide +kernel⟩, ⟨List.mem_of_getElem? (i := 54) (by decide +kernel), by decide +kernel⟩, ⟨by decide +kernel, by decide +kernel⟩, by decide +kernel⟩
theorem k_X6_size : q_okM yX6_size cX6_size 2 (some .int) 1 := ⟨⟨List.mem_of_getElem? (i := 1074) (by decide +kernel), by decide +kernel⟩, ki_OfficeholdersRollModel, ⟨List.mem_of_getElem? (i := 1072) (by decide +kernel), by decide +kernel⟩, ⟨List.mem_of_getElem? (i := 1073) (by decide +kernel), by decide +kernel⟩, ⟨by decide +kernel, by decide +kernel⟩, by decide +kernel⟩
theorem k_X6_careerAt : q_okM yX6_careerAt cX6_careerAt 3 (some .int) 2 := ⟨⟨List.mem_of_getElem? (i := 1078) (by decide +kernel), by decide +kernel⟩, ki_OfficeholdersRollModel, ⟨List.mem_of_getElem? (i := 1076) (by decide +kernel), by decide +kernel⟩, ⟨List.mem_of_getElem? (i := 1077) (by decide +kernel), by decide +kernel⟩, ⟨by decide +kernel, by decide +kernel⟩, by decide +kernel⟩
theorem k_X6_inCareer : q_okM yX6_inCareer cX6_inCareer 7 (some .int) 2 := ⟨⟨List.mem_of_getElem? (i := 1082) (by decide +kernel), by decide +kernel⟩, ki_OfficeholdersRollModel, ⟨List.mem_of_getElem? (i := 1081) (by decide +kernel), by decide +kernel⟩, ⟨List.mem_of_getElem? (i := 55) (by decide +kernel), by decide +kernel⟩, ⟨by decide +kernel, by decide +kernel⟩, by decide +kernel⟩
theorem k_X6_isInCareer : q_okM yX6_isInCareer cX6_isInCareer 3 (some .boolean) 2 := ⟨⟨List.mem_of_getElem? (i := 1086) (by decide +kernel), by decide +kernel⟩, ki_OfficeholdersRollModel, ⟨List.mem_of_getElem? (i := 1085) (by decide +kernel), by decide +kernel⟩, ⟨List.mem_of_getElem? (i := 56) (by decide +kernel), by decide +kernel⟩, ⟨by decide +kernel, by decide +kernel⟩, by decide +kernel⟩
theorem k_X6_isEarlier : q_okM yX6_isEarlier cX6_isEarlier 3 (some .boolean) 2 := ⟨⟨List.mem_of_getElem? (i := 1090) (by decide +kernel), by decide +kernel⟩, ki_OfficeholdersRollModel, ⟨List.mem_of_getElem? (i := 1089) (by decide +kernel), by decide +kernel⟩, ⟨List.mem_of_getElem? (i := 57) (by decide +kernel), by decide +kernel⟩, ⟨by decide +kernel, by decide +kernel⟩, by decide +kernel⟩
theorem k_X6_breaches : q_okM yX6_breaches cX6_breaches 6 (some .int) 1 := ⟨⟨List.mem_of_getElem? (i := 1094) (by decide +kernel), by decide +kernel⟩, ki_OfficeholdersRollModel, ⟨List.mem_of_getElem? (i := 1092) (by decide +kernel), by decide +kernel⟩, ⟨List.mem_of_getElem? (i := 1093) (by decide +kernel), by decide +kernel⟩, ⟨by decide +kernel, by decide +kernel⟩, by decide +kernel⟩
theorem k_X6_kin : q_okM yX6_kin cX6_kin 4 (some .boolean) 2 := ⟨⟨List.mem_of_getElem? (i := 1098) (by decide +kernel), by decide +kernel⟩, ki_OfficeholdersRollModel, ⟨List.mem_of_getElem? (i := 1096) (by decide +kernel), by decide +kernel⟩, ⟨List.mem_of_getElem? (i := 1097) (by decide +kernel), by decide +kernel⟩, ⟨by decide +kernel, by decide +kernel⟩, by decide +kernel⟩
theorem k_X6_degree : q_okM yX6_degree cX6_degree 6 (some .int) 2 := ⟨⟨List.mem_of_getElem? (i := 1102) (by decide +kernel), by decide +kernel⟩, ki_OfficeholdersRollModel, ⟨List.mem_of_getElem? (i := 1100) (by decide +kernel), by decide +kernel⟩, ⟨List.mem_of_getElem? (i := 1101) (by decide +kernel), by decide +kernel⟩, ⟨by decide +kernel, by decide +kernel⟩, by decide +kernel⟩
theorem k_X6_best : q_okM yX6_best cX6_best 2 (some .int) 1 := ⟨⟨List.mem_of_getElem? (i := 1106) (by decide +kernel), by decide +kernel⟩, ki_OfficeholdersRollModel, ⟨List.mem_of_getElem? (i := 1104) (by decide +kernel), by decide +kernel⟩, ⟨List.mem_of_getElem? (i := 1105) (by decide +kernel), by decide +kernel⟩, ⟨by decide +kernel, by decide +kernel⟩, by decide +kernel⟩
theorem k_X6_tellsBest : q_okM yX6_tellsBest cX6_tellsBest 8 (some .int) 1 := ⟨⟨List.mem_of_getElem? (i := 1110) (by decide +kernel), by decide +kernel⟩, ki_OfficeholdersRollModel, ⟨List.mem_of_getElem? (i := 1109) (by decide +kernel), by decide +kernel⟩, ⟨List.mem_of_getElem? (i := 58) (by decide +kernel), by decide +kernel⟩, ⟨by decide +kernel, by decide +kernel⟩, by decide +kernel⟩
theorem k_X6_worth : q_okM yX6_worth cX6_worth 6 (some .int) 1 := ⟨⟨List.mem_of_getElem? (i := 1115) (by decide +kernel), by decide +kernel⟩, ki_OfficeholdersRollModel, ⟨List.mem_of_getElem? (i := 1114) (by decide +kernel), by decide +kernel⟩, ⟨List.mem_of_getElem? (i := 59) (by decide +kernel), by decide +kernel⟩, ⟨by decide +kernel, by decide +kernel⟩, by decide +kernel⟩
theorem k_X6_bestAnew : q_okM yX6_bestAnew cX6_bestAnew 2 (some .int) 1 := ⟨⟨List.mem_of_getElem? (i := 1119) (by decide +kernel), by decide +kernel⟩, ki_OfficeholdersRollModel, ⟨List.mem_of_getElem? (i := 1117) (by decide +kernel), by decide +kernel⟩, ⟨List.mem_of_getElem? (i := 1118) (by decide +kernel), by decide +kernel⟩, ⟨by decide +kernel, by decide +kernel⟩, by decide +kernel⟩
theorem k_X6_rival : q_okM yX6_rival cX6_rival 4 (some .int) 2 := ⟨⟨List.mem_of_getElem? (i := 1123) (by decide +kernel), by decide +kernel⟩, ki_OfficeholdersRollModel, ⟨List.mem_of_getElem? (i := 1121) (by decide +kernel), by decide +kernel⟩, ⟨List.mem_of_getElem? (i := 1122) (by decide +kernel), by decide +kernel⟩, ⟨by decide +kernel, by decide +kernel⟩, by decide +kernel⟩
theorem k_X6_differ : q_okM yX6_differ cX6_differ 5 (some .int) 0 := ⟨⟨List.mem_of_getElem? (i := 1127) (by decide +kernel), by decide +kernel⟩, ki_OfficeholdersRollModel, ⟨List.mem_of_getElem? (i := 1125) (by decide +kernel), by decide +kernel⟩, ⟨List.mem_of_getElem? (i := 1126) (by decide +kernel), by decide +kernel⟩, ⟨by decide +kernel, by decide +kernel⟩, by decide +kernel⟩
theorem kl_L_94 : q_ok (.methodLink RL 94 yX5_init) := ⟨List.mem_of_getElem? (i := 78) (by decide +kernel), by decide +kernel⟩
theorem kl_X5_1 : q_ok (.methodLink RX5 1 objectInit) := ⟨List.mem_of_getElem? (i := 81) (by decide +kernel), by decide +kernel⟩
theorem kl_X5_11 : q_ok (.methodLink RX5 11 yX3_init) := ⟨List.mem_of_getElem? (i := 86) (by decide +kernel), by decide +kernel⟩
theorem kl_X3_1 : q_ok (.methodLink RX3 1 objectInit) := ⟨List.mem_of_getElem? (i := 89) (by decide +kernel), by decide +kernel⟩
theorem kl_X3_7 : q_ok (.methodLink RX3 7 Lib.Math.max.name) := ⟨List.mem_of_getElem? (i := 90) (by decide +kernel), by decide +kernel⟩
theorem kl_X5_35 : q_ok (.methodLink RX5 35 yX1_init) := ⟨List.mem_of_getElem? (i := 100) (by decide +kernel), by decide +kernel⟩
theorem kl_X1_1 : q_ok (.methodLink RX1 1 objectInit) := ⟨List.mem_of_getElem? (i := 103) (by decide +kernel), by decide +kernel⟩
theorem kl_X1_9 : q_ok (.methodLink RX1 9 yX3_init) := ⟨List.mem_of_getElem? (i := 105) (by decide +kernel), by decide +kernel⟩
theorem kl_X5_51 : q_ok (.methodLink RX5 51 yX4_init) := ⟨List.mem_of_getElem? (i := 112) (by decide +kernel), by decide +kernel⟩
theorem kl_X4_3 : q_ok (.methodLink RX4 3 objectInit) := ⟨List.mem_of_getElem? (i := 115) (by decide +kernel), by decide +kernel⟩
theorem kl_X4_11 : q_ok (.methodLink RX4 11 yX3_init) := ⟨List.mem_of_getElem? (i := 117) (by decide +kernel), by decide +kernel⟩
theorem kl_X4_47 : q_ok (.methodLink RX4 47 yX3_fill) := ⟨List.mem_of_getElem? (i := 118) (by decide +kernel), by decide +kernel⟩
theorem kl_X5_58 : Cond.methodLinkNest RX5 58 yX2_init "OfficeholdersRoll" ∈ lw_tbl := List.mem_of_getElem? (i := 158) (by decide +kernel)
theorem kl_X2_3 : q_ok (.methodLink RX2 3 objectInit) := ⟨List.mem_of_getElem? (i := 161) (by decide +kernel), by decide +kernel⟩
theorem kl_X2_11 : q_ok (.methodLink RX2 11 yX3_init) := ⟨List.mem_of_getElem? (i := 163) (by decide +kernel), by decide +kernel⟩
theorem kl_X5_65 : Cond.methodLinkNest RX5 65 yX0_init "OfficeholdersRoll" ∈ lw_tbl := List.mem_of_getElem? (i := 176) (by decide +kernel)
theorem kl_X0_3 : q_ok (.methodLink RX0 3 objectInit) := ⟨List.mem_of_getElem? (i := 179) (by decide +kernel), by decide +kernel⟩
theorem kl_X0_11 : q_ok (.methodLink RX0 11 yX3_init) := ⟨List.mem_of_getElem? (i := 181) (by decide +kernel), by decide +kernel⟩
theorem kl_X5_76 : q_ok (.methodLink RX5 76 yX3_put) := ⟨List.mem_of_getElem? (i := 201) (by decide +kernel), by decide +kernel⟩
theorem kl_L_182 : q_ok (.methodLink RL 182 yX5_differ) := ⟨List.mem_of_getElem? (i := 254) (by decide +kernel), by decide +kernel⟩
theorem kl_X5_164 : q_ok (.methodLink RX5 164 yX2_ownerOf) := ⟨List.mem_of_getElem? (i := 258) (by decide +kernel), by decide +kernel⟩
theorem kl_X2_27 : q_ok (.methodLink RX2 27 yX3_at) := ⟨List.mem_of_getElem? (i := 262) (by decide +kernel), by decide +kernel⟩
theorem kl_X5_208 : q_ok (.methodLink RX5 208 yX5_areTogetherForRival) := ⟨List.mem_of_getElem? (i := 266) (by decide +kernel), by decide +kernel⟩
theorem kl_X5_105 : q_ok (.methodLink RX5 105 yX3_at) := ⟨List.mem_of_getElem? (i := 270) (by decide +kernel), by decide +kernel⟩
theorem kl_X5_239 : q_ok (.methodLink RX5 239 yX5_areSameAndKnown) := ⟨List.mem_of_getElem? (i := 271) (by decide +kernel), by decide +kernel⟩
theorem kl_L_98 : q_ok (.methodLink RL 98 yL_mention) := ⟨List.mem_of_getElem? (i := 274) (by decide +kernel), by decide +kernel⟩
theorem kl_L_7 : q_ok (.methodLink RL 7 yX5_mention) := ⟨List.mem_of_getElem? (i := 280) (by decide +kernel), by decide +kernel⟩
theorem kl_X5_80 : q_ok (.methodLink RX5 80 yX5_needPost) := ⟨List.mem_of_getElem? (i := 284) (by decide +kernel), by decide +kernel⟩
theorem kl_X5_83 : q_ok (.methodLink RX5 83 yX5_needWithin) := ⟨List.mem_of_getElem? (i := 355) (by decide +kernel), by decide +kernel⟩
theorem kl_X5_98 : q_ok (.methodLink RX5 98 yX5_needRoomForPerson) := ⟨List.mem_of_getElem? (i := 390) (by decide +kernel), by decide +kernel⟩
theorem kl_X5_214 : q_ok (.methodLink RX5 214 yX2_made) := ⟨List.mem_of_getElem? (i := 394) (by decide +kernel), by decide +kernel⟩
theorem kl_X5_101 : q_ok (.methodLink RX5 101 yX2_moveToNew) := ⟨List.mem_of_getElem? (i := 399) (by decide +kernel), by decide +kernel⟩
theorem kl_X2_31 : q_ok (.methodLink RX2 31 yX3_put) := ⟨List.mem_of_getElem? (i := 403) (by decide +kernel), by decide +kernel⟩
theorem kl_L_108 : q_ok (.methodLink RL 108 yL_rank) := ⟨List.mem_of_getElem? (i := 404) (by decide +kernel), by decide +kernel⟩
theorem kl_L_19 : q_ok (.methodLink RL 19 yX5_rank) := ⟨List.mem_of_getElem? (i := 407) (by decide +kernel), by decide +kernel⟩
theorem kl_L_112 : q_ok (.methodLink RL 112 yL_bar) := ⟨List.mem_of_getElem? (i := 411) (by decide +kernel), by decide +kernel⟩
theorem kl_L_23 : q_ok (.methodLink RL 23 yX5_bar) := ⟨List.mem_of_getElem? (i := 414) (by decide +kernel), by decide +kernel⟩
theorem kl_X5_108 : q_ok (.methodLink RX5 108 yX5_needUnlike) := ⟨List.mem_of_getElem? (i := 418) (by decide +kernel), by decide +kernel⟩
theorem kl_X5_111 : q_ok (.methodLink RX5 111 yX1_tell) := ⟨List.mem_of_getElem? (i := 422) (by decide +kernel), by decide +kernel⟩
theorem kl_X1_22 : q_ok (.methodLink RX1 22 yX1_has) := ⟨List.mem_of_getElem? (i := 426) (by decide +kernel), by decide +kernel⟩
theorem kl_X1_18 : q_ok (.methodLink RX1 18 yX3_at) := ⟨List.mem_of_getElem? (i := 430) (by decide +kernel), by decide +kernel⟩
theorem kl_X1_26 : q_ok (.methodLink RX1 26 yX1_mark) := ⟨List.mem_of_getElem? (i := 431) (by decide +kernel), by decide +kernel⟩
theorem kl_X1_30 : q_ok (.methodLink RX1 30 yX3_put) := ⟨List.mem_of_getElem? (i := 435) (by decide +kernel), by decide +kernel⟩
theorem kl_L_116 : q_ok (.methodLink RL 116 yL_ahead) := ⟨List.mem_of_getElem? (i := 436) (by decide +kernel), by decide +kernel⟩
theorem kl_L_27 : q_ok (.methodLink RL 27 yX5_ahead) := ⟨List.mem_of_getElem? (i := 439) (by decide +kernel), by decide +kernel⟩
theorem kl_X5_115 : q_ok (.methodLink RX5 115 yX5_needTwoMentions) := ⟨List.mem_of_getElem? (i := 443) (by decide +kernel), by decide +kernel⟩
theorem kl_X5_131 : q_ok (.methodLink RX5 131 yX5_needMention) := ⟨List.mem_of_getElem? (i := 447) (by decide +kernel), by decide +kernel⟩
theorem kl_X5_118 : q_ok (.methodLink RX5 118 yX4_isFullyTold) := ⟨List.mem_of_getElem? (i := 452) (by decide +kernel), by decide +kernel⟩
theorem kl_X5_124 : q_ok (.methodLink RX5 124 yX4_tellAhead) := ⟨List.mem_of_getElem? (i := 457) (by decide +kernel), by decide +kernel⟩
theorem kl_X4_58 : q_ok (.methodLink RX4 58 yX3_put) := ⟨List.mem_of_getElem? (i := 461) (by decide +kernel), by decide +kernel⟩
theorem kl_X4_62 : q_ok (.methodLink RX4 62 yX4_tryDating) := ⟨List.mem_of_getElem? (i := 462) (by decide +kernel), by decide +kernel⟩
theorem kl_X4_82 : q_ok (.methodLink RX4 82 yX3_copyFrom) := ⟨List.mem_of_getElem? (i := 466) (by decide +kernel), by decide +kernel⟩
theorem kl_X3_19 : q_ok (.methodLink RX3 19 yX3_at) := ⟨List.mem_of_getElem? (i := 470) (by decide +kernel), by decide +kernel⟩
theorem kl_X4_86 : q_ok (.methodLink RX4 86 yX4_comesToRest) := ⟨List.mem_of_getElem? (i := 471) (by decide +kernel), by decide +kernel⟩
theorem kl_X4_96 : q_ok (.methodLink RX4 96 yX4_pushAll) := ⟨List.mem_of_getElem? (i := 475) (by decide +kernel), by decide +kernel⟩
theorem kl_X4_54 : q_ok (.methodLink RX4 54 yX3_at) := ⟨List.mem_of_getElem? (i := 479) (by decide +kernel), by decide +kernel⟩
theorem kl_X4_90 : q_ok (.methodLink RX4 90 yX4_leavesYears) := ⟨List.mem_of_getElem? (i := 480) (by decide +kernel), by decide +kernel⟩
theorem kl_X4_93 : q_ok (.methodLink RX4 93 yX4_countMoved) := ⟨List.mem_of_getElem? (i := 484) (by decide +kernel), by decide +kernel⟩
theorem kl_X4_66 : q_ok (.methodLink RX4 66 yX4_keepTried) := ⟨List.mem_of_getElem? (i := 488) (by decide +kernel), by decide +kernel⟩
theorem kl_X5_128 : q_ok (.methodLink RX5 128 yX5_needDating) := ⟨List.mem_of_getElem? (i := 492) (by decide +kernel), by decide +kernel⟩
theorem kl_L_120 : q_ok (.methodLink RL 120 yL_find) := ⟨List.mem_of_getElem? (i := 496) (by decide +kernel), by decide +kernel⟩
theorem kl_L_31 : q_ok (.methodLink RL 31 yX5_find) := ⟨List.mem_of_getElem? (i := 499) (by decide +kernel), by decide +kernel⟩
theorem kl_X5_134 : q_ok (.methodLink RX5 134 yX5_needYears) := ⟨List.mem_of_getElem? (i := 503) (by decide +kernel), by decide +kernel⟩
theorem kl_X5_137 : q_ok (.methodLink RX5 137 yX4_narrow) := ⟨List.mem_of_getElem? (i := 506) (by decide +kernel), by decide +kernel⟩
theorem kl_X4_69 : q_ok (.methodLink RX4 69 yX4_tryNarrow) := ⟨List.mem_of_getElem? (i := 510) (by decide +kernel), by decide +kernel⟩
theorem kl_X4_73 : q_ok (.methodLink RX4 73 Lib.Math.max.name) := ⟨List.mem_of_getElem? (i := 514) (by decide +kernel), by decide +kernel⟩
theorem kl_X4_79 : q_ok (.methodLink RX4 79 Lib.Math.min.name) := ⟨List.mem_of_getElem? (i := 515) (by decide +kernel), by decide +kernel⟩
theorem kl_L_123 : q_ok (.methodLink RL 123 yL_wouldMove) := ⟨List.mem_of_getElem? (i := 518) (by decide +kernel), by decide +kernel⟩
theorem kl_L_34 : q_ok (.methodLink RL 34 yX5_wouldMove) := ⟨List.mem_of_getElem? (i := 521) (by decide +kernel), by decide +kernel⟩
theorem kl_X5_140 : q_ok (.methodLink RX5 140 yX4_tryNarrow) := ⟨List.mem_of_getElem? (i := 525) (by decide +kernel), by decide +kernel⟩
theorem kl_L_126 : q_ok (.methodLink RL 126 yL_year) := ⟨List.mem_of_getElem? (i := 526) (by decide +kernel), by decide +kernel⟩
theorem kl_L_37 : q_ok (.methodLink RL 37 yX5_year) := ⟨List.mem_of_getElem? (i := 529) (by decide +kernel), by decide +kernel⟩
theorem kl_X5_143 : q_ok (.methodLink RX5 143 yX4_lastOf) := ⟨List.mem_of_getElem? (i := 533) (by decide +kernel), by decide +kernel⟩
theorem kl_X5_146 : q_ok (.methodLink RX5 146 yX4_firstOf) := ⟨List.mem_of_getElem? (i := 537) (by decide +kernel), by decide +kernel⟩
theorem kl_L_130 : q_ok (.methodLink RL 130 yL_yearAnew) := ⟨List.mem_of_getElem? (i := 541) (by decide +kernel), by decide +kernel⟩
theorem kl_L_41 : q_ok (.methodLink RL 41 yX5_yearAnew) := ⟨List.mem_of_getElem? (i := 544) (by decide +kernel), by decide +kernel⟩
theorem kl_X5_149 : q_ok (.methodLink RX5 149 yX4_lastByWays) := ⟨List.mem_of_getElem? (i := 548) (by decide +kernel), by decide +kernel⟩
theorem kl_X4_99 : q_ok (.methodLink RX4 99 yX4_measureWays) := ⟨List.mem_of_getElem? (i := 552) (by decide +kernel), by decide +kernel⟩
theorem kl_X4_106 : q_ok (.methodLink RX4 106 yX4_lengthen) := ⟨List.mem_of_getElem? (i := 557) (by decide +kernel), by decide +kernel⟩
theorem kl_X4_102 : q_ok (.methodLink RX4 102 yX4_wayBetween) := ⟨List.mem_of_getElem? (i := 561) (by decide +kernel), by decide +kernel⟩
theorem kl_X4_110 : q_ok (.methodLink RX4 110 yX4_lengthenAllVia) := ⟨List.mem_of_getElem? (i := 565) (by decide +kernel), by decide +kernel⟩
theorem kl_X5_152 : q_ok (.methodLink RX5 152 yX4_firstByWays) := ⟨List.mem_of_getElem? (i := 569) (by decide +kernel), by decide +kernel⟩
theorem kl_L_133 : q_ok (.methodLink RL 133 yL_seal) := ⟨List.mem_of_getElem? (i := 573) (by decide +kernel), by decide +kernel⟩
theorem kl_L_44 : q_ok (.methodLink RL 44 yX5_seal) := ⟨List.mem_of_getElem? (i := 576) (by decide +kernel), by decide +kernel⟩
theorem kl_L_136 : q_ok (.methodLink RL 136 yL_block) := ⟨List.mem_of_getElem? (i := 580) (by decide +kernel), by decide +kernel⟩
theorem kl_L_48 : q_ok (.methodLink RL 48 yX5_block) := ⟨List.mem_of_getElem? (i := 583) (by decide +kernel), by decide +kernel⟩
theorem kl_L_139 : q_ok (.methodLink RL 139 yL_weight) := ⟨List.mem_of_getElem? (i := 587) (by decide +kernel), by decide +kernel⟩
theorem kl_L_51 : q_ok (.methodLink RL 51 yX5_weight) := ⟨List.mem_of_getElem? (i := 590) (by decide +kernel), by decide +kernel⟩
theorem kl_X5_155 : q_ok (.methodLink RX5 155 yX5_weightOf) := ⟨List.mem_of_getElem? (i := 594) (by decide +kernel), by decide +kernel⟩
theorem kl_X5_242 : q_ok (.methodLink RX5 242 yX1_has) := ⟨List.mem_of_getElem? (i := 598) (by decide +kernel), by decide +kernel⟩
theorem kl_L_142 : q_ok (.methodLink RL 142 yL_whyNot) := ⟨List.mem_of_getElem? (i := 599) (by decide +kernel), by decide +kernel⟩
theorem kl_L_54 : q_ok (.methodLink RL 54 yX5_whyNot) := ⟨List.mem_of_getElem? (i := 602) (by decide +kernel), by decide +kernel⟩
theorem kl_X5_159 : q_ok (.methodLink RX5 159 yX5_reasonAgainst) := ⟨List.mem_of_getElem? (i := 606) (by decide +kernel), by decide +kernel⟩
theorem kl_X5_249 : q_ok (.methodLink RX5 249 yX5_reasonAgainstAny) := ⟨List.mem_of_getElem? (i := 610) (by decide +kernel), by decide +kernel⟩
theorem kl_X5_257 : q_ok (.methodLink RX5 257 yX5_reasonOfPair) := ⟨List.mem_of_getElem? (i := 614) (by decide +kernel), by decide +kernel⟩
theorem kl_X5_260 : q_ok (.methodLink RX5 260 yX5_haveOtherFamilies) := ⟨List.mem_of_getElem? (i := 618) (by decide +kernel), by decide +kernel⟩
theorem kl_X5_263 : q_ok (.methodLink RX5 263 yX5_areBarredAtOnce) := ⟨List.mem_of_getElem? (i := 622) (by decide +kernel), by decide +kernel⟩
theorem kl_X5_245 : q_ok (.methodLink RX5 245 yX4_isCertain) := ⟨List.mem_of_getElem? (i := 626) (by decide +kernel), by decide +kernel⟩
theorem kl_X5_252 : q_ok (.methodLink RX5 252 Lib.Math.min.name) := ⟨List.mem_of_getElem? (i := 630) (by decide +kernel), by decide +kernel⟩
theorem kl_L_145 : q_ok (.methodLink RL 145 yL_join) := ⟨List.mem_of_getElem? (i := 631) (by decide +kernel), by decide +kernel⟩
theorem kl_L_57 : q_ok (.methodLink RL 57 yX5_join) := ⟨List.mem_of_getElem? (i := 634) (by decide +kernel), by decide +kernel⟩
theorem kl_X5_167 : q_ok (.methodLink RX5 167 yX2_unite) := ⟨List.mem_of_getElem? (i := 639) (by decide +kernel), by decide +kernel⟩
theorem kl_X2_35 : q_ok (.methodLink RX2 35 Lib.Math.min.name) := ⟨List.mem_of_getElem? (i := 643) (by decide +kernel), by decide +kernel⟩
theorem kl_X2_41 : q_ok (.methodLink RX2 41 Lib.Math.max.name) := ⟨List.mem_of_getElem? (i := 644) (by decide +kernel), by decide +kernel⟩
theorem kl_L_148 : q_ok (.methodLink RL 148 yL_split) := ⟨List.mem_of_getElem? (i := 645) (by decide +kernel), by decide +kernel⟩
theorem kl_L_60 : q_ok (.methodLink RL 60 yX5_split) := ⟨List.mem_of_getElem? (i := 648) (by decide +kernel), by decide +kernel⟩
theorem kl_X5_170 : q_ok (.methodLink RX5 170 yX5_mentionsOf) := ⟨List.mem_of_getElem? (i := 652) (by decide +kernel), by decide +kernel⟩
theorem kl_L_152 : q_ok (.methodLink RL 152 yL_person) := ⟨List.mem_of_getElem? (i := 657) (by decide +kernel), by decide +kernel⟩
theorem kl_L_64 : q_ok (.methodLink RL 64 yX5_person) := ⟨List.mem_of_getElem? (i := 660) (by decide +kernel), by decide +kernel⟩
theorem kl_L_155 : q_ok (.methodLink RL 155 yL_entry) := ⟨List.mem_of_getElem? (i := 664) (by decide +kernel), by decide +kernel⟩
theorem kl_L_67 : q_ok (.methodLink RL 67 yX5_entry) := ⟨List.mem_of_getElem? (i := 667) (by decide +kernel), by decide +kernel⟩
theorem kl_X5_175 : q_ok (.methodLink RX5 175 yX5_needPerson) := ⟨List.mem_of_getElem? (i := 671) (by decide +kernel), by decide +kernel⟩
theorem kl_X5_178 : q_ok (.methodLink RX5 178 yX2_leadOf) := ⟨List.mem_of_getElem? (i := 676) (by decide +kernel), by decide +kernel⟩
theorem kl_L_158 : q_ok (.methodLink RL 158 yL_size) := ⟨List.mem_of_getElem? (i := 680) (by decide +kernel), by decide +kernel⟩
theorem kl_L_70 : q_ok (.methodLink RL 70 yX5_size) := ⟨List.mem_of_getElem? (i := 683) (by decide +kernel), by decide +kernel⟩
theorem kl_L_161 : q_ok (.methodLink RL 161 yL_careerAt) := ⟨List.mem_of_getElem? (i := 687) (by decide +kernel), by decide +kernel⟩
theorem kl_L_73 : q_ok (.methodLink RL 73 yX5_careerAt) := ⟨List.mem_of_getElem? (i := 690) (by decide +kernel), by decide +kernel⟩
theorem kl_X5_186 : q_ok (.methodLink RX5 186 yX5_layOutCareer) := ⟨List.mem_of_getElem? (i := 695) (by decide +kernel), by decide +kernel⟩
theorem kl_X5_266 : q_ok (.methodLink RX5 266 yX5_putInCareer) := ⟨List.mem_of_getElem? (i := 699) (by decide +kernel), by decide +kernel⟩
theorem kl_L_164 : q_ok (.methodLink RL 164 yL_breaches) := ⟨List.mem_of_getElem? (i := 703) (by decide +kernel), by decide +kernel⟩
theorem kl_L_76 : q_ok (.methodLink RL 76 yX5_breaches) := ⟨List.mem_of_getElem? (i := 706) (by decide +kernel), by decide +kernel⟩
theorem kl_X5_189 : q_ok (.methodLink RX5 189 yX5_rankAt) := ⟨List.mem_of_getElem? (i := 710) (by decide +kernel), by decide +kernel⟩
theorem kl_L_167 : q_ok (.methodLink RL 167 yL_kin) := ⟨List.mem_of_getElem? (i := 714) (by decide +kernel), by decide +kernel⟩
theorem kl_L_79 : q_ok (.methodLink RL 79 yX5_kin) := ⟨List.mem_of_getElem? (i := 717) (by decide +kernel), by decide +kernel⟩
theorem kl_L_170 : q_ok (.methodLink RL 170 yL_degree) := ⟨List.mem_of_getElem? (i := 721) (by decide +kernel), by decide +kernel⟩
theorem kl_L_82 : q_ok (.methodLink RL 82 yX5_degree) := ⟨List.mem_of_getElem? (i := 724) (by decide +kernel), by decide +kernel⟩
theorem kl_X5_192 : q_ok (.methodLink RX5 192 yX5_stepsBetween) := ⟨List.mem_of_getElem? (i := 728) (by decide +kernel), by decide +kernel⟩
theorem kl_X5_269 : q_ok (.methodLink RX5 269 yX3_fill) := ⟨List.mem_of_getElem? (i := 732) (by decide +kernel), by decide +kernel⟩
theorem kl_X5_272 : q_ok (.methodLink RX5 272 yX5_stepOn) := ⟨List.mem_of_getElem? (i := 733) (by decide +kernel), by decide +kernel⟩
theorem kl_X5_275 : q_ok (.methodLink RX5 275 yX5_reachKinOf) := ⟨List.mem_of_getElem? (i := 737) (by decide +kernel), by decide +kernel⟩
theorem kl_L_173 : q_ok (.methodLink RL 173 yL_best) := ⟨List.mem_of_getElem? (i := 741) (by decide +kernel), by decide +kernel⟩
theorem kl_L_85 : q_ok (.methodLink RL 85 yX5_best) := ⟨List.mem_of_getElem? (i := 744) (by decide +kernel), by decide +kernel⟩
theorem kl_X5_195 : q_ok (.methodLink RX5 195 yX5_needFewMentions) := ⟨List.mem_of_getElem? (i := 748) (by decide +kernel), by decide +kernel⟩
theorem kl_X5_230 : q_ok (.methodLink RX5 230 yJ6_bitCount_0f7a4) := ⟨List.mem_of_getElem? (i := 753) (by decide +kernel), by decide +kernel⟩
theorem kl_X5_198 : q_ok (.methodLink RX5 198 yX5_layOutPairs) := ⟨List.mem_of_getElem? (i := 759) (by decide +kernel), by decide +kernel⟩
theorem kl_X5_278 : q_ok (.methodLink RX5 278 yX0_clear) := ⟨List.mem_of_getElem? (i := 763) (by decide +kernel), by decide +kernel⟩
theorem kl_X5_281 : q_ok (.methodLink RX5 281 yX0_add) := ⟨List.mem_of_getElem? (i := 767) (by decide +kernel), by decide +kernel⟩
theorem kl_X0_36 : q_ok (.methodLink RX0 36 yX3_put) := ⟨List.mem_of_getElem? (i := 771) (by decide +kernel), by decide +kernel⟩
theorem kl_X5_284 : q_ok (.methodLink RX5 284 yX0_count) := ⟨List.mem_of_getElem? (i := 772) (by decide +kernel), by decide +kernel⟩
theorem kl_X5_287 : q_ok (.methodLink RX5 287 yX0_mentionAt) := ⟨List.mem_of_getElem? (i := 776) (by decide +kernel), by decide +kernel⟩
theorem kl_X0_40 : q_ok (.methodLink RX0 40 yX3_at) := ⟨List.mem_of_getElem? (i := 780) (by decide +kernel), by decide +kernel⟩
theorem kl_X5_290 : q_ok (.methodLink RX5 290 yX5_worthOfPair) := ⟨List.mem_of_getElem? (i := 781) (by decide +kernel), by decide +kernel⟩
theorem kl_X5_293 : q_ok (.methodLink RX5 293 yX0_putWorth) := ⟨List.mem_of_getElem? (i := 786) (by decide +kernel), by decide +kernel⟩
theorem kl_X5_201 : q_ok (.methodLink RX5 201 yX0_bestByParts) := ⟨List.mem_of_getElem? (i := 790) (by decide +kernel), by decide +kernel⟩
theorem kl_X0_44 : q_ok (.methodLink RX0 44 yX0_worthOfGroup) := ⟨List.mem_of_getElem? (i := 794) (by decide +kernel), by decide +kernel⟩
theorem kl_X0_50 : q_ok (.methodLink RX0 50 yX0_pairWorth) := ⟨List.mem_of_getElem? (i := 798) (by decide +kernel), by decide +kernel⟩
theorem kl_X0_47 : q_ok (.methodLink RX0 47 yX0_bestOfSet) := ⟨List.mem_of_getElem? (i := 803) (by decide +kernel), by decide +kernel⟩
theorem kl_X0_55 : q_ok (.methodLink RX0 55 Lib.Math.max.name) := ⟨List.mem_of_getElem? (i := 807) (by decide +kernel), by decide +kernel⟩
theorem kl_L_176 : q_ok (.methodLink RL 176 yL_bestAnew) := ⟨List.mem_of_getElem? (i := 808) (by decide +kernel), by decide +kernel⟩
theorem kl_L_88 : q_ok (.methodLink RL 88 yX5_bestAnew) := ⟨List.mem_of_getElem? (i := 811) (by decide +kernel), by decide +kernel⟩
theorem kl_X5_205 : q_ok (.methodLink RX5 205 yX0_bestOfAll) := ⟨List.mem_of_getElem? (i := 815) (by decide +kernel), by decide +kernel⟩
theorem kl_X0_60 : q_ok (.methodLink RX0 60 yX3_fill) := ⟨List.mem_of_getElem? (i := 819) (by decide +kernel), by decide +kernel⟩
theorem kl_X0_63 : q_ok (.methodLink RX0 63 yX0_worthOfGrouping) := ⟨List.mem_of_getElem? (i := 820) (by decide +kernel), by decide +kernel⟩
theorem kl_X0_67 : q_ok (.methodLink RX0 67 yX0_goOnToNext) := ⟨List.mem_of_getElem? (i := 824) (by decide +kernel), by decide +kernel⟩
theorem kl_X0_71 : q_ok (.methodLink RX0 71 yX0_greatestGroupBefore) := ⟨List.mem_of_getElem? (i := 828) (by decide +kernel), by decide +kernel⟩
theorem kl_L_179 : q_ok (.methodLink RL 179 yL_rival) := ⟨List.mem_of_getElem? (i := 832) (by decide +kernel), by decide +kernel⟩
theorem kl_L_91 : q_ok (.methodLink RL 91 yX5_rival) := ⟨List.mem_of_getElem? (i := 835) (by decide +kernel), by decide +kernel⟩
theorem kl_L_97 : q_ok (.methodLink RL 97 yX6_init) := ⟨List.mem_of_getElem? (i := 841) (by decide +kernel), by decide +kernel⟩
theorem kl_X6_1 : q_ok (.methodLink RX6 1 objectInit) := ⟨List.mem_of_getElem? (i := 844) (by decide +kernel), by decide +kernel⟩
theorem kl_L_104 : q_ok (.methodLink RL 104 yX6_thrown) := ⟨List.mem_of_getElem? (i := 930) (by decide +kernel), by decide +kernel⟩
theorem kl_L_103 : q_ok (.methodLink RL 103 yX6_mention) := ⟨List.mem_of_getElem? (i := 934) (by decide +kernel), by decide +kernel⟩
theorem kl_X6_89 : q_ok (.methodLink RX6 89 yX6_isIn) := ⟨List.mem_of_getElem? (i := 938) (by decide +kernel), by decide +kernel⟩
theorem kl_X6_96 : q_ok (.methodLink RX6 96 yX6_isPost) := ⟨List.mem_of_getElem? (i := 941) (by decide +kernel), by decide +kernel⟩
theorem kl_X6_100 : q_ok (.methodLink RX6 100 yX6_adds) := ⟨List.mem_of_getElem? (i := 944) (by decide +kernel), by decide +kernel⟩
theorem kl_L_111 : q_ok (.methodLink RL 111 yX6_rank) := ⟨List.mem_of_getElem? (i := 948) (by decide +kernel), by decide +kernel⟩
theorem kl_L_115 : q_ok (.methodLink RL 115 yX6_bar) := ⟨List.mem_of_getElem? (i := 952) (by decide +kernel), by decide +kernel⟩
theorem kl_X6_104 : q_ok (.methodLink RX6 104 yX6_has) := ⟨List.mem_of_getElem? (i := 956) (by decide +kernel), by decide +kernel⟩
theorem kl_L_119 : q_ok (.methodLink RL 119 yX6_ahead) := ⟨List.mem_of_getElem? (i := 959) (by decide +kernel), by decide +kernel⟩
theorem kl_X6_111 : q_ok (.methodLink RX6 111 yX6_isMention) := ⟨List.mem_of_getElem? (i := 963) (by decide +kernel), by decide +kernel⟩
theorem kl_X6_114 : q_ok (.methodLink RX6 114 yX6_dates) := ⟨List.mem_of_getElem? (i := 967) (by decide +kernel), by decide +kernel⟩
theorem kl_X6_118 : q_ok (.methodLink RX6 118 yX6_moves) := ⟨List.mem_of_getElem? (i := 971) (by decide +kernel), by decide +kernel⟩
theorem kl_X6_122 : q_ok (.methodLink RX6 122 yX6_keeps) := ⟨List.mem_of_getElem? (i := 975) (by decide +kernel), by decide +kernel⟩
theorem kl_L_122 : q_ok (.methodLink RL 122 yX6_find) := ⟨List.mem_of_getElem? (i := 979) (by decide +kernel), by decide +kernel⟩
theorem kl_X6_125 : q_ok (.methodLink RX6 125 yX6_areYears) := ⟨List.mem_of_getElem? (i := 983) (by decide +kernel), by decide +kernel⟩
theorem kl_X6_128 : q_ok (.methodLink RX6 128 yX6_finds) := ⟨List.mem_of_getElem? (i := 987) (by decide +kernel), by decide +kernel⟩
theorem kl_L_125 : q_ok (.methodLink RL 125 yX6_wouldMove) := ⟨List.mem_of_getElem? (i := 991) (by decide +kernel), by decide +kernel⟩
theorem kl_L_129 : q_ok (.methodLink RL 129 yX6_year) := ⟨List.mem_of_getElem? (i := 995) (by decide +kernel), by decide +kernel⟩
theorem kl_X6_132 : q_ok (.methodLink RX6 132 yX6_tellsYear) := ⟨List.mem_of_getElem? (i := 999) (by decide +kernel), by decide +kernel⟩
theorem kl_L_132 : q_ok (.methodLink RL 132 yX6_yearAnew) := ⟨List.mem_of_getElem? (i := 1003) (by decide +kernel), by decide +kernel⟩
theorem kl_L_135 : q_ok (.methodLink RL 135 yX6_seal) := ⟨List.mem_of_getElem? (i := 1007) (by decide +kernel), by decide +kernel⟩
theorem kl_X6_136 : q_ok (.methodLink RX6 136 yX6_asksTwo) := ⟨List.mem_of_getElem? (i := 1011) (by decide +kernel), by decide +kernel⟩
theorem kl_L_138 : q_ok (.methodLink RL 138 yX6_block) := ⟨List.mem_of_getElem? (i := 1015) (by decide +kernel), by decide +kernel⟩
theorem kl_L_141 : q_ok (.methodLink RL 141 yX6_weight) := ⟨List.mem_of_getElem? (i := 1019) (by decide +kernel), by decide +kernel⟩
theorem kl_X6_139 : q_ok (.methodLink RX6 139 yX6_weightOf) := ⟨List.mem_of_getElem? (i := 1023) (by decide +kernel), by decide +kernel⟩
theorem kl_L_144 : q_ok (.methodLink RL 144 yX6_whyNot) := ⟨List.mem_of_getElem? (i := 1027) (by decide +kernel), by decide +kernel⟩
theorem kl_X6_152 : q_ok (.methodLink RX6 152 yX6_reason) := ⟨List.mem_of_getElem? (i := 1031) (by decide +kernel), by decide +kernel⟩
theorem kl_X6_149 : q_ok (.methodLink RX6 149 yX6_hasReason) := ⟨List.mem_of_getElem? (i := 1035) (by decide +kernel), by decide +kernel⟩
theorem kl_X6_143 : q_ok (.methodLink RX6 143 yX6_areOfUnlikeFamilies) := ⟨List.mem_of_getElem? (i := 1039) (by decide +kernel), by decide +kernel⟩
theorem kl_X6_146 : q_ok (.methodLink RX6 146 yX6_areBarred) := ⟨List.mem_of_getElem? (i := 1043) (by decide +kernel), by decide +kernel⟩
theorem kl_L_147 : q_ok (.methodLink RL 147 yX6_join) := ⟨List.mem_of_getElem? (i := 1047) (by decide +kernel), by decide +kernel⟩
theorem kl_L_151 : q_ok (.methodLink RL 151 yX6_split) := ⟨List.mem_of_getElem? (i := 1051) (by decide +kernel), by decide +kernel⟩
theorem kl_X6_155 : q_ok (.methodLink RX6 155 yX6_sizeOf) := ⟨List.mem_of_getElem? (i := 1055) (by decide +kernel), by decide +kernel⟩
theorem kl_L_154 : q_ok (.methodLink RL 154 yX6_person) := ⟨List.mem_of_getElem? (i := 1059) (by decide +kernel), by decide +kernel⟩
theorem kl_L_157 : q_ok (.methodLink RL 157 yX6_entry) := ⟨List.mem_of_getElem? (i := 1063) (by decide +kernel), by decide +kernel⟩
theorem kl_X6_158 : q_ok (.methodLink RX6 158 yX6_isPerson) := ⟨List.mem_of_getElem? (i := 1067) (by decide +kernel), by decide +kernel⟩
theorem kl_L_160 : q_ok (.methodLink RL 160 yX6_size) := ⟨List.mem_of_getElem? (i := 1071) (by decide +kernel), by decide +kernel⟩
theorem kl_L_163 : q_ok (.methodLink RL 163 yX6_careerAt) := ⟨List.mem_of_getElem? (i := 1075) (by decide +kernel), by decide +kernel⟩
theorem kl_X6_167 : q_ok (.methodLink RX6 167 yX6_inCareer) := ⟨List.mem_of_getElem? (i := 1079) (by decide +kernel), by decide +kernel⟩
theorem kl_X6_161 : q_ok (.methodLink RX6 161 yX6_isInCareer) := ⟨List.mem_of_getElem? (i := 1083) (by decide +kernel), by decide +kernel⟩
theorem kl_X6_164 : q_ok (.methodLink RX6 164 yX6_isEarlier) := ⟨List.mem_of_getElem? (i := 1087) (by decide +kernel), by decide +kernel⟩
theorem kl_L_166 : q_ok (.methodLink RL 166 yX6_breaches) := ⟨List.mem_of_getElem? (i := 1091) (by decide +kernel), by decide +kernel⟩
theorem kl_L_169 : q_ok (.methodLink RL 169 yX6_kin) := ⟨List.mem_of_getElem? (i := 1095) (by decide +kernel), by decide +kernel⟩
theorem kl_L_172 : q_ok (.methodLink RL 172 yX6_degree) := ⟨List.mem_of_getElem? (i := 1099) (by decide +kernel), by decide +kernel⟩
theorem kl_L_175 : q_ok (.methodLink RL 175 yX6_best) := ⟨List.mem_of_getElem? (i := 1103) (by decide +kernel), by decide +kernel⟩
theorem kl_X6_174 : q_ok (.methodLink RX6 174 yX6_tellsBest) := ⟨List.mem_of_getElem? (i := 1107) (by decide +kernel), by decide +kernel⟩
theorem kl_X6_171 : q_ok (.methodLink RX6 171 yX6_worth) := ⟨List.mem_of_getElem? (i := 1112) (by decide +kernel), by decide +kernel⟩
theorem kl_L_178 : q_ok (.methodLink RL 178 yX6_bestAnew) := ⟨List.mem_of_getElem? (i := 1116) (by decide +kernel), by decide +kernel⟩
theorem kl_L_181 : q_ok (.methodLink RL 181 yX6_rival) := ⟨List.mem_of_getElem? (i := 1120) (by decide +kernel), by decide +kernel⟩
theorem kl_L_185 : q_ok (.methodLink RL 185 yX6_differ) := ⟨List.mem_of_getElem? (i := 1124) (by decide +kernel), by decide +kernel⟩
theorem kf_X3_13 : q_ok (.fieldLink RX3 13 "OfficeholdersRoll$Row" "cells" "[I") := ⟨List.mem_of_getElem? (i := 93) (by decide +kernel), by decide +kernel⟩
theorem kf_X1_12 : q_ok (.fieldLink RX1 12 "OfficeholdersRoll$Pairs" "partners" "LOfficeholdersRoll$Row;") := ⟨List.mem_of_getElem? (i := 106) (by decide +kernel), by decide +kernel⟩
theorem kf_X4_14 : q_ok (.fieldLink RX4 14 "OfficeholdersRoll$Years" "lows" "LOfficeholdersRoll$Row;") := ⟨List.mem_of_getElem? (i := 122) (by decide +kernel), by decide +kernel⟩
theorem kf_X4_20 : q_ok (.fieldLink RX4 20 "OfficeholdersRoll$Years" "highs" "LOfficeholdersRoll$Row;") := ⟨List.mem_of_getElem? (i := 123) (by decide +kernel), by decide +kernel⟩
theorem kf_X4_23 : q_ok (.fieldLink RX4 23 "OfficeholdersRoll$Years" "formers" "LOfficeholdersRoll$Row;") := ⟨List.mem_of_getElem? (i := 124) (by decide +kernel), by decide +kernel⟩
theorem kf_X4_26 : q_ok (.fieldLink RX4 26 "OfficeholdersRoll$Years" "latters" "LOfficeholdersRoll$Row;") := ⟨List.mem_of_getElem? (i := 125) (by decide +kernel), by decide +kernel⟩
theorem kf_X4_29 : q_ok (.fieldLink RX4 29 "OfficeholdersRoll$Years" "gaps" "LOfficeholdersRoll$Row;") := ⟨List.mem_of_getElem? (i := 126) (by decide +kernel), by decide +kernel⟩
theorem kf_X4_32 : q_ok (.fieldLink RX4 32 "OfficeholdersRoll$Years" "firsts" "LOfficeholdersRoll$Row;") := ⟨List.mem_of_getElem? (i := 127) (by decide +kernel), by decide +kernel⟩
theorem kf_X4_35 : q_ok (.fieldLink RX4 35 "OfficeholdersRoll$Years" "lasts" "LOfficeholdersRoll$Row;") := ⟨List.mem_of_getElem? (i := 128) (by decide +kernel), by decide +kernel⟩
theorem kf_X4_38 : q_ok (.fieldLink RX4 38 "OfficeholdersRoll$Years" "triedFirsts" "LOfficeholdersRoll$Row;") := ⟨List.mem_of_getElem? (i := 129) (by decide +kernel), by decide +kernel⟩
theorem kf_X4_41 : q_ok (.fieldLink RX4 41 "OfficeholdersRoll$Years" "triedLasts" "LOfficeholdersRoll$Row;") := ⟨List.mem_of_getElem? (i := 130) (by decide +kernel), by decide +kernel⟩
theorem kf_X4_44 : q_ok (.fieldLink RX4 44 "OfficeholdersRoll$Years" "ways" "LOfficeholdersRoll$Row;") := ⟨List.mem_of_getElem? (i := 131) (by decide +kernel), by decide +kernel⟩
theorem kf_X4_50 : q_ok (.fieldLink RX4 50 "OfficeholdersRoll$Years" "told" "I") := ⟨List.mem_of_getElem? (i := 132) (by decide +kernel), by decide +kernel⟩
theorem kf_X2_14 : q_ok (.fieldLink RX2 14 "OfficeholdersRoll$Persons" "owners" "LOfficeholdersRoll$Row;") := ⟨List.mem_of_getElem? (i := 164) (by decide +kernel), by decide +kernel⟩
theorem kf_X2_20 : q_ok (.fieldLink RX2 20 "OfficeholdersRoll$Persons" "leads" "LOfficeholdersRoll$Row;") := ⟨List.mem_of_getElem? (i := 165) (by decide +kernel), by decide +kernel⟩
theorem kf_X2_23 : q_ok (.fieldLink RX2 23 "OfficeholdersRoll$Persons" "made" "I") := ⟨List.mem_of_getElem? (i := 166) (by decide +kernel), by decide +kernel⟩
theorem kf_X0_14 : q_ok (.fieldLink RX0 14 "OfficeholdersRoll$Groupings" "mentions" "LOfficeholdersRoll$Row;") := ⟨List.mem_of_getElem? (i := 182) (by decide +kernel), by decide +kernel⟩
theorem kf_X0_20 : q_ok (.fieldLink RX0 20 "OfficeholdersRoll$Groupings" "pairWorths" "LOfficeholdersRoll$Row;") := ⟨List.mem_of_getElem? (i := 183) (by decide +kernel), by decide +kernel⟩
theorem kf_X0_23 : q_ok (.fieldLink RX0 23 "OfficeholdersRoll$Groupings" "groupWorths" "LOfficeholdersRoll$Row;") := ⟨List.mem_of_getElem? (i := 184) (by decide +kernel), by decide +kernel⟩
theorem kf_X0_26 : q_ok (.fieldLink RX0 26 "OfficeholdersRoll$Groupings" "bests" "LOfficeholdersRoll$Row;") := ⟨List.mem_of_getElem? (i := 185) (by decide +kernel), by decide +kernel⟩
theorem kf_X0_29 : q_ok (.fieldLink RX0 29 "OfficeholdersRoll$Groupings" "groups" "LOfficeholdersRoll$Row;") := ⟨List.mem_of_getElem? (i := 186) (by decide +kernel), by decide +kernel⟩
theorem kf_X0_32 : q_ok (.fieldLink RX0 32 "OfficeholdersRoll$Groupings" "count" "I") := ⟨List.mem_of_getElem? (i := 187) (by decide +kernel), by decide +kernel⟩
theorem kf_X5_14 : q_ok (.fieldLink RX5 14 "OfficeholdersRoll" "names" "LOfficeholdersRoll$Row;") := ⟨List.mem_of_getElem? (i := 205) (by decide +kernel), by decide +kernel⟩
theorem kf_X5_18 : q_ok (.fieldLink RX5 18 "OfficeholdersRoll" "families" "LOfficeholdersRoll$Row;") := ⟨List.mem_of_getElem? (i := 206) (by decide +kernel), by decide +kernel⟩
theorem kf_X5_21 : q_ok (.fieldLink RX5 21 "OfficeholdersRoll" "places" "LOfficeholdersRoll$Row;") := ⟨List.mem_of_getElem? (i := 207) (by decide +kernel), by decide +kernel⟩
theorem kf_X5_24 : q_ok (.fieldLink RX5 24 "OfficeholdersRoll" "posts" "LOfficeholdersRoll$Row;") := ⟨List.mem_of_getElem? (i := 208) (by decide +kernel), by decide +kernel⟩
theorem kf_X5_27 : q_ok (.fieldLink RX5 27 "OfficeholdersRoll" "labels" "LOfficeholdersRoll$Row;") := ⟨List.mem_of_getElem? (i := 209) (by decide +kernel), by decide +kernel⟩
theorem kf_X5_30 : q_ok (.fieldLink RX5 30 "OfficeholdersRoll" "ranks" "LOfficeholdersRoll$Row;") := ⟨List.mem_of_getElem? (i := 210) (by decide +kernel), by decide +kernel⟩
theorem kf_X5_36 : q_ok (.fieldLink RX5 36 "OfficeholdersRoll" "bars" "LOfficeholdersRoll$Pairs;") := ⟨List.mem_of_getElem? (i := 211) (by decide +kernel), by decide +kernel⟩
theorem kf_X5_40 : q_ok (.fieldLink RX5 40 "OfficeholdersRoll" "seals" "LOfficeholdersRoll$Pairs;") := ⟨List.mem_of_getElem? (i := 212) (by decide +kernel), by decide +kernel⟩
theorem kf_X5_43 : q_ok (.fieldLink RX5 43 "OfficeholdersRoll" "blocks" "LOfficeholdersRoll$Pairs;") := ⟨List.mem_of_getElem? (i := 213) (by decide +kernel), by decide +kernel⟩
theorem kf_X5_46 : q_ok (.fieldLink RX5 46 "OfficeholdersRoll" "kinships" "LOfficeholdersRoll$Pairs;") := ⟨List.mem_of_getElem? (i := 214) (by decide +kernel), by decide +kernel⟩
theorem kf_X5_52 : q_ok (.fieldLink RX5 52 "OfficeholdersRoll" "years" "LOfficeholdersRoll$Years;") := ⟨List.mem_of_getElem? (i := 215) (by decide +kernel), by decide +kernel⟩
theorem kf_X5_59 : q_ok (.fieldLink RX5 59 "OfficeholdersRoll" "persons" "LOfficeholdersRoll$Persons;") := ⟨List.mem_of_getElem? (i := 216) (by decide +kernel), by decide +kernel⟩
theorem kf_X5_66 : q_ok (.fieldLink RX5 66 "OfficeholdersRoll" "groupings" "LOfficeholdersRoll$Groupings;") := ⟨List.mem_of_getElem? (i := 217) (by decide +kernel), by decide +kernel⟩
theorem kf_X5_70 : q_ok (.fieldLink RX5 70 "OfficeholdersRoll" "career" "LOfficeholdersRoll$Row;") := ⟨List.mem_of_getElem? (i := 218) (by decide +kernel), by decide +kernel⟩
theorem kf_X5_73 : q_ok (.fieldLink RX5 73 "OfficeholdersRoll" "steps" "LOfficeholdersRoll$Row;") := ⟨List.mem_of_getElem? (i := 219) (by decide +kernel), by decide +kernel⟩
theorem kf_X5_87 : q_ok (.fieldLink RX5 87 "OfficeholdersRoll" "mentionCount" "I") := ⟨List.mem_of_getElem? (i := 220) (by decide +kernel), by decide +kernel⟩
theorem kf_X6_86 : q_ok (.fieldLink RX6 86 "OfficeholdersRollModel" "mentions" "I") := ⟨List.mem_of_getElem? (i := 845) (by decide +kernel), by decide +kernel⟩
theorem kf_X6_7 : q_ok (.fieldLink RX6 7 "OfficeholdersRollModel" "name" "[I") := ⟨List.mem_of_getElem? (i := 846) (by decide +kernel), by decide +kernel⟩
theorem kf_X6_13 : q_ok (.fieldLink RX6 13 "OfficeholdersRollModel" "family" "[I") := ⟨List.mem_of_getElem? (i := 847) (by decide +kernel), by decide +kernel⟩
theorem kf_X6_16 : q_ok (.fieldLink RX6 16 "OfficeholdersRollModel" "place" "[I") := ⟨List.mem_of_getElem? (i := 848) (by decide +kernel), by decide +kernel⟩
theorem kf_X6_19 : q_ok (.fieldLink RX6 19 "OfficeholdersRollModel" "post" "[I") := ⟨List.mem_of_getElem? (i := 849) (by decide +kernel), by decide +kernel⟩
theorem kf_X6_22 : q_ok (.fieldLink RX6 22 "OfficeholdersRollModel" "ranks" "[I") := ⟨List.mem_of_getElem? (i := 850) (by decide +kernel), by decide +kernel⟩
theorem kf_X6_25 : q_ok (.fieldLink RX6 25 "OfficeholdersRollModel" "barred" "[I") := ⟨List.mem_of_getElem? (i := 851) (by decide +kernel), by decide +kernel⟩
theorem kf_X6_28 : q_ok (.fieldLink RX6 28 "OfficeholdersRollModel" "sealed" "[I") := ⟨List.mem_of_getElem? (i := 852) (by decide +kernel), by decide +kernel⟩
theorem kf_X6_31 : q_ok (.fieldLink RX6 31 "OfficeholdersRollModel" "blocked" "[I") := ⟨List.mem_of_getElem? (i := 853) (by decide +kernel), by decide +kernel⟩
theorem kf_X6_34 : q_ok (.fieldLink RX6 34 "OfficeholdersRollModel" "kinOf" "[I") := ⟨List.mem_of_getElem? (i := 854) (by decide +kernel), by decide +kernel⟩
theorem kf_X6_37 : q_ok (.fieldLink RX6 37 "OfficeholdersRollModel" "labels" "[I") := ⟨List.mem_of_getElem? (i := 855) (by decide +kernel), by decide +kernel⟩
theorem kf_X6_40 : q_ok (.fieldLink RX6 40 "OfficeholdersRollModel" "low" "[I") := ⟨List.mem_of_getElem? (i := 856) (by decide +kernel), by decide +kernel⟩
theorem kf_X6_43 : q_ok (.fieldLink RX6 43 "OfficeholdersRollModel" "high" "[I") := ⟨List.mem_of_getElem? (i := 857) (by decide +kernel), by decide +kernel⟩
theorem kf_X6_46 : q_ok (.fieldLink RX6 46 "OfficeholdersRollModel" "first" "[I") := ⟨List.mem_of_getElem? (i := 858) (by decide +kernel), by decide +kernel⟩
theorem kf_X6_49 : q_ok (.fieldLink RX6 49 "OfficeholdersRollModel" "last" "[I") := ⟨List.mem_of_getElem? (i := 859) (by decide +kernel), by decide +kernel⟩
theorem kf_X6_52 : q_ok (.fieldLink RX6 52 "OfficeholdersRollModel" "nextFirst" "[I") := ⟨List.mem_of_getElem? (i := 860) (by decide +kernel), by decide +kernel⟩
theorem kf_X6_55 : q_ok (.fieldLink RX6 55 "OfficeholdersRollModel" "nextLast" "[I") := ⟨List.mem_of_getElem? (i := 861) (by decide +kernel), by decide +kernel⟩
theorem kf_X6_108 : q_ok (.fieldLink RX6 108 "OfficeholdersRollModel" "told" "I") := ⟨List.mem_of_getElem? (i := 862) (by decide +kernel), by decide +kernel⟩
theorem kf_X6_58 : q_ok (.fieldLink RX6 58 "OfficeholdersRollModel" "former" "[I") := ⟨List.mem_of_getElem? (i := 863) (by decide +kernel), by decide +kernel⟩
theorem kf_X6_61 : q_ok (.fieldLink RX6 61 "OfficeholdersRollModel" "latter" "[I") := ⟨List.mem_of_getElem? (i := 864) (by decide +kernel), by decide +kernel⟩
theorem kf_X6_64 : q_ok (.fieldLink RX6 64 "OfficeholdersRollModel" "gaps" "[I") := ⟨List.mem_of_getElem? (i := 865) (by decide +kernel), by decide +kernel⟩
theorem kf_X6_93 : q_ok (.fieldLink RX6 93 "OfficeholdersRollModel" "persons" "I") := ⟨List.mem_of_getElem? (i := 866) (by decide +kernel), by decide +kernel⟩
theorem kf_X6_67 : q_ok (.fieldLink RX6 67 "OfficeholdersRollModel" "belongs" "[I") := ⟨List.mem_of_getElem? (i := 867) (by decide +kernel), by decide +kernel⟩
theorem kf_X6_70 : q_ok (.fieldLink RX6 70 "OfficeholdersRollModel" "leads" "[I") := ⟨List.mem_of_getElem? (i := 868) (by decide +kernel), by decide +kernel⟩
theorem kf_X6_73 : q_ok (.fieldLink RX6 73 "OfficeholdersRollModel" "steps" "[I") := ⟨List.mem_of_getElem? (i := 869) (by decide +kernel), by decide +kernel⟩
theorem kf_X6_76 : q_ok (.fieldLink RX6 76 "OfficeholdersRollModel" "chosen" "[I") := ⟨List.mem_of_getElem? (i := 870) (by decide +kernel), by decide +kernel⟩
theorem kf_X6_79 : q_ok (.fieldLink RX6 79 "OfficeholdersRollModel" "greatest" "[I") := ⟨List.mem_of_getElem? (i := 871) (by decide +kernel), by decide +kernel⟩
theorem kf_X6_82 : q_ok (.fieldLink RX6 82 "OfficeholdersRollModel" "thrown" "I") := ⟨List.mem_of_getElem? (i := 872) (by decide +kernel), by decide +kernel⟩
theorem kk_X4_105 : q_ok (.constant RX4 105 (-1000000 : Int32)) := ⟨List.mem_of_getElem? (i := 556) (by decide +kernel), by decide +kernel⟩
theorem kk_X5_296 : q_ok (.constant RX5 296 (-1000000 : Int32)) := ⟨List.mem_of_getElem? (i := 785) (by decide +kernel), by decide +kernel⟩
theorem kk_X0_54 : q_ok (.constant RX0 54 (-1000000 : Int32)) := ⟨List.mem_of_getElem? (i := 802) (by decide +kernel), by decide +kernel⟩
theorem kk_X6_170 : q_ok (.constant RX6 170 (-1000000 : Int32)) := ⟨List.mem_of_getElem? (i := 1111) (by decide +kernel), by decide +kernel⟩
theorem kx_L_8 : q_ok (.classLink RL 8 RX5) := ⟨List.mem_of_getElem? (i := 76) (by decide +kernel), by decide +kernel⟩
theorem kx_X5_7 : q_ok (.classLink RX5 7 RX3) := ⟨List.mem_of_getElem? (i := 84) (by decide +kernel), by decide +kernel⟩
theorem kx_X5_33 : q_ok (.classLink RX5 33 RX1) := ⟨List.mem_of_getElem? (i := 98) (by decide +kernel), by decide +kernel⟩
theorem kx_X1_7 : q_ok (.classLink RX1 7 RX3) := ⟨List.mem_of_getElem? (i := 104) (by decide +kernel), by decide +kernel⟩
theorem kx_X5_49 : q_ok (.classLink RX5 49 RX4) := ⟨List.mem_of_getElem? (i := 110) (by decide +kernel), by decide +kernel⟩
theorem kx_X4_9 : q_ok (.classLink RX4 9 RX3) := ⟨List.mem_of_getElem? (i := 116) (by decide +kernel), by decide +kernel⟩
theorem kx_X5_56 : q_ok (.classLink RX5 56 RX2) := ⟨List.mem_of_getElem? (i := 156) (by decide +kernel), by decide +kernel⟩
theorem kx_X2_9 : q_ok (.classLink RX2 9 RX3) := ⟨List.mem_of_getElem? (i := 162) (by decide +kernel), by decide +kernel⟩
theorem kx_X5_63 : q_ok (.classLink RX5 63 RX0) := ⟨List.mem_of_getElem? (i := 174) (by decide +kernel), by decide +kernel⟩
theorem kx_X0_9 : q_ok (.classLink RX0 9 RX3) := ⟨List.mem_of_getElem? (i := 180) (by decide +kernel), by decide +kernel⟩
theorem kx_L_13 : q_ok (.classLink RL 13 "java/lang/IndexOutOfBoundsException") := ⟨List.mem_of_getElem? (i := 277) (by decide +kernel), by decide +kernel⟩
theorem kx_L_15 : q_ok (.classLink RL 15 "java/lang/IllegalArgumentException") := ⟨List.mem_of_getElem? (i := 278) (by decide +kernel), by decide +kernel⟩
theorem kx_L_17 : q_ok (.classLink RL 17 "java/lang/IllegalStateException") := ⟨List.mem_of_getElem? (i := 279) (by decide +kernel), by decide +kernel⟩
theorem kx_X5_181 : q_ok (.classLink RX5 181 "java/lang/IndexOutOfBoundsException") := ⟨List.mem_of_getElem? (i := 287) (by decide +kernel), by decide +kernel⟩
theorem kx_X5_221 : q_ok (.classLink RX5 221 "java/lang/IllegalArgumentException") := ⟨List.mem_of_getElem? (i := 358) (by decide +kernel), by decide +kernel⟩
theorem kx_X5_91 : q_ok (.classLink RX5 91 "java/lang/IllegalStateException") := ⟨List.mem_of_getElem? (i := 374) (by decide +kernel), by decide +kernel⟩
theorem kx_L_95 : q_ok (.classLink RL 95 RX6) := ⟨List.mem_of_getElem? (i := 839) (by decide +kernel), by decide +kernel⟩
theorem kn_X5 : q_ok (.instantiable RX5 16) := ⟨List.mem_of_getElem? (i := 77) (by decide +kernel), by decide +kernel⟩
theorem kn_X3 : q_ok (.instantiable RX3 1) := ⟨List.mem_of_getElem? (i := 85) (by decide +kernel), by decide +kernel⟩
theorem kn_X1 : q_ok (.instantiable RX1 1) := ⟨List.mem_of_getElem? (i := 99) (by decide +kernel), by decide +kernel⟩
theorem kn_X4 : q_ok (.instantiable RX4 11) := ⟨List.mem_of_getElem? (i := 111) (by decide +kernel), by decide +kernel⟩
theorem kn_X2 : q_ok (.instantiable RX2 3) := ⟨List.mem_of_getElem? (i := 157) (by decide +kernel), by decide +kernel⟩
theorem kn_X0 : q_ok (.instantiable RX0 6) := ⟨List.mem_of_getElem? (i := 175) (by decide +kernel), by decide +kernel⟩
theorem kn_X6 : q_ok (.instantiable RX6 28) := ⟨List.mem_of_getElem? (i := 840) (by decide +kernel), by decide +kernel⟩
theorem ka_int : q_ok (.arrayClass FieldType.int) := ⟨List.mem_of_getElem? (i := 97) (by decide +kernel), by decide +kernel⟩
theorem ka_byte : q_ok (.arrayClass FieldType.byte) := ⟨List.mem_of_getElem? (i := 354) (by decide +kernel), by decide +kernel⟩
theorem ka_long : q_ok (.arrayClass FieldType.long) := ⟨List.mem_of_getElem? (i := 1128) (by decide +kernel), by decide +kernel⟩
theorem kw_X0 : ∀ w ∈ u_ws RX0 TX0 6, q_ok w := fun w h => ⟨(show ∀ w ∈ u_ws RX0 TX0 6, w ∈ lw_tbl from by decide +kernel) w h, (show ∀ w ∈ u_ws RX0 TX0 6, goodWord w = true from by decide +kernel) w h⟩
theorem kw_X1 : ∀ w ∈ u_ws RX1 TX1 1, q_ok w := fun w h => ⟨(show ∀ w ∈ u_ws RX1 TX1 1, w ∈ lw_tbl from by decide +kernel) w h, (show ∀ w ∈ u_ws RX1 TX1 1, goodWord w = true from by decide +kernel) w h⟩
theorem kw_X2 : ∀ w ∈ u_ws RX2 TX2 3, q_ok w := fun w h => ⟨(show ∀ w ∈ u_ws RX2 TX2 3, w ∈ lw_tbl from by decide +kernel) w h, (show ∀ w ∈ u_ws RX2 TX2 3, goodWord w = true from by decide +kernel) w h⟩
theorem kw_X3 : ∀ w ∈ u_ws RX3 TX3 1, q_ok w := fun w h => ⟨(show ∀ w ∈ u_ws RX3 TX3 1, w ∈ lw_tbl from by decide +kernel) w h, (show ∀ w ∈ u_ws RX3 TX3 1, goodWord w = true from by decide +kernel) w h⟩
theorem kw_X4 : ∀ w ∈ u_ws RX4 TX4 11, q_ok w := fun w h => ⟨(show ∀ w ∈ u_ws RX4 TX4 11, w ∈ lw_tbl from by decide +kernel) w h, (show ∀ w ∈ u_ws RX4 TX4 11, goodWord w = true from by decide +kernel) w h⟩
theorem kw_X5 : ∀ w ∈ u_ws RX5 TX5 16, q_ok w := fun w h => ⟨(show ∀ w ∈ u_ws RX5 TX5 16, w ∈ lw_tbl from by decide +kernel) w h, (show ∀ w ∈ u_ws RX5 TX5 16, goodWord w = true from by decide +kernel) w h⟩
theorem kw_X6 : ∀ w ∈ u_ws RX6 TX6 28, q_ok w := fun w h => ⟨(show ∀ w ∈ u_ws RX6 TX6 28, w ∈ lw_tbl from by decide +kernel) w h, (show ∀ w ∈ u_ws RX6 TX6 28, goodWord w = true from by decide +kernel) w h⟩
end
section
/-! what a method's start gives; contracts of methods that make nothing: the answer and the cells behind, as terms -/
theorem q_Tb.moved {s U : State} (h : q_Tb s) (hW : s.WarmedH U.vm) : q_Tb U := fun w hw => word_at hW (good_of_word hw.2) (h w hw)
theorem q_Tb.use {s : State} (h : q_Tb s) {w : Cond} (hw : q_ok w) (a : Array Value) : w.before a s = true := word_at (State.WarmedH.refl s) (good_of_word hw.2) (h w hw)
def q_In (D : va_G) (cA : ClassId) (ws : va_W) (sz : Nat) (U : State) : Prop := U.heap.size = sz ∧ va_P D vwCl ws U.heap ∧ va_K D vwCl [(cA, .int)] U ∧ va_D (fun _ => True) ws ∧ q_Tb U
theorem q_blind {D : va_G} {cA : ClassId} {ws : va_W} {sz : Nat} {av : List Value} : FrameBlind (va_Pc av (q_In D cA ws sz)) := fun a U g mk q => by
  obtain ⟨q0, q1, qP, qK, qD, qT⟩ := q
  exact ⟨q0, q1, qP, va_K.moved (u := U) (U := U.calling g mk a) (Vm.Alike.refl U.vm) qK, qD, q_Tb.moved qT (State.WarmedH.refl U)⟩
/-- an int answer r, the cells w' behind -/
def q_CI (l : Launch) (y : MethodName) (cw : List Cond) (rm : Room) (D : va_G) (cA : ClassId) (av : List Value) (w : va_W) (r : Int32) (w' : va_W) : Prop :=
  ∀ sz : Nat, Met l y cw rm (va_Pc av (q_In D cA w sz)) (va_Qi (fun (r' : Int32) (_ : Unit) => r' = r) (fun _ t => va_P D vwCl w' t.heap) (va_A w sz)) 0 0 (va_A w sz)
/-- no answer -/
def q_CV (l : Launch) (y : MethodName) (cw : List Cond) (rm : Room) (D : va_G) (cA : ClassId) (av : List Value) (w : va_W) (w' : va_W) : Prop :=
  ∀ sz : Nat, Met l y cw rm (va_Pc av (q_In D cA w sz)) (va_Qv (fun (_ : Unit) => True) (fun _ t => va_P D vwCl w' t.heap) (va_A w sz)) 0 0 (va_A w sz)
/-- what a body of such a method owes at its end -/
def q_GI (D : va_G) (r : Int32) (w' : va_W) (A : Nat → Prop) (below : List Frame) (args : Array Value) (s : State) : State → Prop := MQ below (va_Qi (fun (r' : Int32) (_ : Unit) => r' = r) (fun _ t => va_P D vwCl w' t.heap) A) args s 0 0 A
def q_GV (D : va_G) (w' : va_W) (A : Nat → Prop) (below : List Frame) (args : Array Value) (s : State) : State → Prop := MQ below (va_Qv (fun (_ : Unit) => True) (fun _ t => va_P D vwCl w' t.heap) A) args s 0 0 A
theorem q_startI {l : Launch} {y : MethodName} {cc : ByteArray} {maxL : Nat} {ret : Option FieldType} {rm : Room} {D : va_G} {cA : ClassId} {av : List Value} {w w' : va_W} {r : Int32} (own : String) (hy : plainName y.cls = true) (ho : y.cls = own) (hn : (lg_sl av).length ≤ maxL)
    (body : ∀ (p : Program) (e : Env) (s : State) (m : MethodId) (below : List Frame) (meth : Method) (c : Code) (A : Nat → Prop) (args : Array Value) (H : Heap) (locs : List Loc) (ls : Array Slot), p.tables.exec = Jvm.exec → c.code = cc → meth.sig.returnType = ret → c.maxLocals = maxL → s.vm.findClass own = some m.cls → q_Tb s → meth.locks = false →
      va_P D vwCl w H → va_K D vwCl [(cA, .int)] s → va_D A w → (∀ q : Nat, s.heap.size ≤ q → A q) → va_S A s.heap H locs → lv_has ls maxL (lv_args 0 av) →
      W p l e rm s m args below meth c H locs 0 0 (q_GI D r w' A below args s) (F0 m 0 ls [])) : q_CI l y [Cond.code y cc maxL ret] rm D cA av w r w' := by
  intro sz
  refine Met.ofW (cc := cc) (maxL := maxL) (ret := ret) hy rfl ?_
  intro p e s m args below meth c s₁ B hml hv
  obtain ⟨rfl, hsz, hP, hK, hD0, hT⟩ := hv
  subst hsz
  have hl := lv_entry av (n := maxL) hn
  rw [lg_entry_eq]
  exact body p e s m below meth c _ _ _ [] _ B.exec B.bytes B.returns hml (ho ▸ findClass_of_methodNamed B.named) hT B.notSynchronized hP hK hD0.self (fun q h => Or.inr h) va_S.rf hl
theorem q_startV {l : Launch} {y : MethodName} {cc : ByteArray} {maxL : Nat} {ret : Option FieldType} {rm : Room} {D : va_G} {cA : ClassId} {av : List Value} {w w' : va_W} (own : String) (hy : plainName y.cls = true) (ho : y.cls = own) (hn : (lg_sl av).length ≤ maxL)
    (body : ∀ (p : Program) (e : Env) (s : State) (m : MethodId) (below : List Frame) (meth : Method) (c : Code) (A : Nat → Prop) (args : Array Value) (H : Heap) (locs : List Loc) (ls : Array Slot), p.tables.exec = Jvm.exec → c.code = cc → meth.sig.returnType = ret → c.maxLocals = maxL → s.vm.findClass own = some m.cls → q_Tb s → meth.locks = false →
      va_P D vwCl w H → va_K D vwCl [(cA, .int)] s → va_D A w → (∀ q : Nat, s.heap.size ≤ q → A q) → va_S A s.heap H locs → lv_has ls maxL (lv_args 0 av) →
      W p l e rm s m args below meth c H locs 0 0 (q_GV D w' A below args s) (F0 m 0 ls [])) : q_CV l y [Cond.code y cc maxL ret] rm D cA av w w' := by
  intro sz
  refine Met.ofW (cc := cc) (maxL := maxL) (ret := ret) hy rfl ?_
  intro p e s m args below meth c s₁ B hml hv
  obtain ⟨rfl, hsz, hP, hK, hD0, hT⟩ := hv
  subst hsz
  have hl := lv_entry av (n := maxL) hn
  rw [lg_entry_eq]
  exact body p e s m below meth c _ _ _ [] _ B.exec B.bytes B.returns hml (ho ▸ findClass_of_methodNamed B.named) hT B.notSynchronized hP hK hD0.self (fun q h => Or.inr h) va_S.rf hl
/-- a truth as an int -/
def q_b (b : Bool) : Int32 := bif b then nI 1 else nI 0
theorem q_b_or (b : Bool) : q_b b = nI 0 ∨ q_b b = nI 1 := by cases b <;> simp [q_b]
theorem q_bt {b : Bool} (h : b = true) : nI 1 = q_b b := by rw [h]; rfl
theorem q_bf {b : Bool} (h : b = false) : nI 0 = q_b b := by rw [h]; rfl
theorem q_b0 {b : Bool} : q_b b = 0 ↔ b = false := by cases b <;> simp [q_b, nI] <;> decide
theorem q_b0n {b : Bool} (h : ¬ q_b b = 0) : b = true := by cases b <;> simp_all [q_b, nI]
theorem q_b0e {b : Bool} (h : q_b b = 0) : b = false := q_b0.mp h
theorem q_nar {v : Int32} (h : v = nI 0 ∨ v = nI 1) : narrow .boolean (.int v) = .int v := by rcases h with rfl | rfl <;> rfl
/-! a part of the cells is written: the others stay -/
def q_set : va_W → List Nat → va_W → va_W
  | ws, [], _ => ws
  | ws, _ :: _, [] => ws
  | ws, i :: is, q :: qs => q_set (ws.set i q) is qs
theorem q_set_get : ∀ (is : List Nat) (w1 ws : va_W) (k : Nat) (q : Nat × va_E), (q_set ws is w1)[k]? = some q → (∃ j : Nat, w1[j]? = some q ∧ is[j]? = some k) ∨ (ws[k]? = some q ∧ (is.length ≤ w1.length → k ∉ is))
  | [], w1, ws, k, q, h => Or.inr ⟨by simpa [q_set] using h, fun _ => by simp⟩
  | i :: is, [], ws, k, q, h => Or.inr ⟨by simpa [q_set] using h, fun z => by simp at z⟩
  | i :: is, q0 :: w1, ws, k, q, h => by
    rw [q_set] at h
    rcases q_set_get is w1 (ws.set i q0) k q h with ⟨j, h1, h2⟩ | ⟨h1, h2⟩
    · exact Or.inl ⟨j + 1, by simpa using h1, by simpa using h2⟩
    · by_cases hk : k = i
      · subst hk
        have hl : k < (ws.set k q0).length := (List.getElem?_eq_some_iff.mp h1).1
        rw [List.length_set] at hl
        rw [List.getElem?_set_self hl] at h1
        cases h1
        exact Or.inl ⟨0, rfl, rfl⟩
      · rw [List.getElem?_set_ne (Ne.symm hk)] at h1
        refine Or.inr ⟨h1, fun hle => ?_⟩
        have := h2 (by simpa using hle)
        simp [hk, this]
theorem q_frame {A : Nat → Prop} {D : va_G} {cl : List vw_C} {ws wc w1 : va_W} {H H1 : Heap} (is : List Nat) (hP : va_P D cl ws H) (hD : va_D A ws) (hC : is.map (fun i => ws[i]?) = wc.map some) (hadr : w1.map Prod.fst = wc.map Prod.fst)
    (hk : ∀ q : Nat, q < H.size → ¬ va_A wc H.size q → H1[q]? = H[q]?) (hP1 : va_P D cl w1 H1) : va_P D cl (q_set ws is w1) H1 ∧ va_D A (q_set ws is w1) := by
  have hlen : is.length = w1.length := by
    have h1 := congrArg List.length hC
    have h2 := congrArg List.length hadr
    simp at h1 h2
    omega
  have at' : ∀ (j k : Nat), is[j]? = some k → ∃ q, wc[j]? = some q ∧ ws[k]? = some q := by
    intro j k hj
    have h1 : (is.map (fun i => ws[i]?))[j]? = some (ws[k]?) := by rw [List.getElem?_map, hj]; rfl
    rw [hC, List.getElem?_map] at h1
    cases hq : wc[j]? with
    | none => rw [hq] at h1; cases h1
    | some q => rw [hq] at h1; exact ⟨q, rfl, (Option.some.inj h1).symm⟩
  have at2 : ∀ (j : Nat) (q : Nat × va_E), wc[j]? = some q → ∃ k, is[j]? = some k ∧ ws[k]? = some q := by
    intro j q hq
    have h1 : (is.map (fun i => ws[i]?))[j]? = some (some q) := by rw [hC, List.getElem?_map, hq]; rfl
    rw [List.getElem?_map] at h1
    cases hi : is[j]? with
    | none => rw [hi] at h1; cases h1
    | some i => rw [hi] at h1; exact ⟨i, rfl, Option.some.inj h1⟩
  have adr : ∀ (k : Nat) (q : Nat × va_E), (q_set ws is w1)[k]? = some q → ∃ q0, ws[k]? = some q0 ∧ q0.1 = q.1 := by
    intro k q h
    rcases q_set_get is w1 ws k q h with ⟨j, h1, h2⟩ | ⟨h1, -⟩
    · obtain ⟨q0, g1, g2⟩ := at' j k h2
      refine ⟨q0, g2, ?_⟩
      have e1 : (w1.map Prod.fst)[j]? = some q.1 := by rw [List.getElem?_map, h1]; rfl
      rw [hadr, List.getElem?_map, g1] at e1
      exact Option.some.inj e1
    · exact ⟨q, h1, rfl⟩
  refine ⟨fun k q h => ?_, fun i j x y hi hj hxy => ?_, fun k q h => ?_⟩
  · rcases q_set_get is w1 ws k q h with ⟨j, h1, h2⟩ | ⟨h1, h2⟩
    · exact hP1 j q h1
    · have h3 := h2 (Nat.le_of_eq hlen)
      refine (hP k q h1).kept (hk q.1 (hP k q h1).lt (fun z => ?_))
      rcases z with ⟨j, e, hj⟩ | z
      · obtain ⟨i, g1, g2⟩ := at2 j _ hj
        have := hD.1 i k _ _ g2 h1 rfl
        subst this
        exact h3 (List.mem_of_getElem? g1)
      · have := (hP k q h1).lt
        omega
  · obtain ⟨x0, h1, h2⟩ := adr i x hi
    obtain ⟨y0, h3, h4⟩ := adr j y hj
    exact hD.1 i j x0 y0 h1 h3 (h2.trans (hxy.trans h4.symm))
  · obtain ⟨q0, h1, h2⟩ := adr k q h
    rw [← h2]
    exact hD.2 k q0 h1
section QW
variable {p : Program} {l : Launch} {e : Env} {R : Room} {s : State} {m : MethodId} {args : Array Value} {below : List Frame} {meth : Method} {c : Code} {H : Heap} {locs : List Loc} {cells slots : Nat} {Q : State → Prop}
variable {cc : ByteArray} {pc nL : Nat} {ls : Array Slot} {rest : List Value} {D : va_G} {A : Nat → Prop} {a : Nat} {tys : List (ClassId × FieldType)} {ws ws1 wc w1 : va_W} {H0 : Heap} {own : String} {cA : ClassId} {lv : List (Nat × Value)} {st : List Value}
theorem q_iret {r v : Int32} {w' : va_W} (hx : p.tables.exec = Jvm.exec) (hb : c.code = cc) (hr : meth.sig.returnType = some .int) (hlk : meth.locks = false) (hv : v = r) (hP : va_P D vwCl w' H) (hS : va_S A s.heap H locs) (hdg : decode cc pc = .ok (.ireturn, 1)) :
    W p l e R s m args below meth c H locs 0 0 (q_GI D r w' A below args s) (F0 m pc ls [.int v]) :=
  W.iret hx hb hr (fun t ht hW => ⟨⟨v, (), rfl, hv, by show va_P D vwCl w' t.heap; rw [ht]; exact hP⟩, hS.F ht⟩) hS.2.2 hdg hlk
theorem q_zret {r v : Int32} {w' : va_W} (hx : p.tables.exec = Jvm.exec) (hb : c.code = cc) (hr : meth.sig.returnType = some .boolean) (hlk : meth.locks = false) (hz : v = nI 0 ∨ v = nI 1) (hv : v = r) (hP : va_P D vwCl w' H) (hS : va_S A s.heap H locs) (hdg : decode cc pc = .ok (.ireturn, 1)) :
    W p l e R s m args below meth c H locs 0 0 (q_GI D r w' A below args s) (F0 m pc ls [.int v]) :=
  W.zret hx hb hr (q_nar hz) (fun t ht hW => ⟨⟨v, (), rfl, hv, by show va_P D vwCl w' t.heap; rw [ht]; exact hP⟩, hS.F ht⟩) hS.2.2 hdg hlk
theorem q_vret {w' : va_W} (hx : p.tables.exec = Jvm.exec) (hb : c.code = cc) (hr : meth.sig.returnType = none) (hlk : meth.locks = false) (hP : va_P D vwCl w' H) (hS : va_S A s.heap H locs) (hdg : decode cc pc = .ok (.return_, 1)) :
    W p l e R s m args below meth c H locs 0 0 (q_GV D w' A below args s) (F0 m pc ls []) :=
  W.vret hx hb hr (fun t ht hW => ⟨⟨(), rfl, trivial, by show va_P D vwCl w' t.heap; rw [ht]; exact hP⟩, hS.F ht⟩) hS.2.2 hdg hlk
/-- the top of the stack under another name -/
theorem q_top {x y : Int32} (h : x = y) (k : W p l e R s m args below meth c H locs cells slots Q (F0 m pc ls (.int y :: rest))) : W p l e R s m args below meth c H locs cells slots Q (F0 m pc ls (.int x :: rest)) := h ▸ k
theorem q_get {C : String} {T : u_T} {N ci index : Nat} (hx : p.tables.exec = Jvm.exec) (hb : c.code = cc) (hT : q_Tb s) (hown : s.vm.findClass own = some m.cls) (hK : va_K D vwCl tys s) (hP : va_P D vwCl ws H) (kw : ∀ w ∈ u_ws C T N, q_ok w) (q0 : Nat) {fs : List Value} (he : ws[q0]? = some (a, .inr (ci, fs))) (hc : vwCl[ci]? = some (C, T, N)) (k : Nat) (hk : k < N) (kf : q_ok (.fieldLink own index C (T k).2.1 (T k).2.2.1)) (hsame : (T k).1 = C) {v : Value} (hv : fs[k]? = some v) (hdg : decode cc pc = .ok (.getfield index, 3))
    (kk : W p l e R s m args below meth c H locs cells slots Q (F0 m (pc + 3) ls (v :: rest))) : W p l e R s m args below meth c H locs cells slots Q (F0 m pc ls (.ref a :: rest)) :=
  va_get hx hb (Ts := u_ws C T N) (fun w hw => hT.use (kw w hw) args) (fun w h => h) hown hK hP q0 he hc k hk (hT.use kf args) (fun x h9 => by rw [hsame] at h9; exact h9) hv hdg kk
theorem q_put {C : String} {T : u_T} {N ci index : Nat} {ty0 : Nat → FieldType} (hx : p.tables.exec = Jvm.exec) (hb : c.code = cc) (hT : q_Tb s) (hown : s.vm.findClass own = some m.cls) (hK : va_K D vwCl tys s) (hP : va_P D vwCl ws H) (hD : va_D A ws) (hS : va_S A H0 H locs) (kw : ∀ w ∈ u_ws C T N, q_ok w) (hty : ∀ k, k < N → parseFieldDescriptor (T k).2.2.1 = some (ty0 k)) (hnm : ∀ a, a < N → ∀ b, b < N → a ≠ b → (T a).2.1 ≠ (T b).2.1) (q0 : Nat) {fs : List Value} (he : ws[q0]? = some (a, .inr (ci, fs))) (hc : vwCl[ci]? = some (C, T, N)) (k : Nat) (hk : k < N) (kf : q_ok (.fieldLink own index C (T k).2.1 (T k).2.2.1)) (hsame : (T k).1 = C) (hfin : (T k).2.2.2 = false) {ty : FieldType} {v : Value} (hd : parseFieldDescriptor (T k).2.2.1 = some ty) (hn : narrow ty v = v) (hfit : fits ty v = true) (hl : k < fs.length) (hset : ws.set q0 (a, .inr (ci, fs.set k v)) = ws1)
    (hdg : decode cc pc = .ok (.putfield index, 3)) (kk : ∀ (H1 : Heap) (locs1 : List Loc), va_P D vwCl ws1 H1 → va_D A ws1 → va_S A H0 H1 locs1 → W p l e R s m args below meth c H1 locs1 cells slots Q (F0 m (pc + 3) ls rest)) : W p l e R s m args below meth c H locs cells slots Q (F0 m pc ls (v :: .ref a :: rest)) := by
  subst hset
  exact va_put hx hb (Ts := u_ws C T N) (fun w hw => hT.use (kw w hw) args) (fun w h => h) ty0 hty hnm hown hK hP hD hS q0 he hc k hk (hT.use kf args) (fun x h9 => by rw [hsame] at h9; exact h9) hfin hd hn hfit hl hdg kk
/-- an element by its number -/
theorem q_iald (hx : p.tables.exec = Jvm.exec) (hb : c.code = cc) (hK : va_K D vwCl tys s) (hP : va_P D vwCl ws H) (q0 t0 : Nat) {n : Nat} {f : Nat → Int32} (ha : ws[q0]? = some (a, .inl (cA, n, .inl f))) (ht : tys[t0]? = some (cA, .int)) (k : Nat) {i : Int32} (hi : i = nI k) (hk : k < n) (hn : n < 2147483648) (hdg : decode cc pc = .ok (.iaload, 1))
    (kk : W p l e R s m args below meth c H locs cells slots Q (F0 m (pc + 1) ls (.int (f k) :: rest))) : W p l e R s m args below meth c H locs cells slots Q (F0 m pc ls (.int i :: .ref a :: rest)) := by
  subst hi
  refine va_iald hx hb hK hP q0 t0 ha ht (vp_in_nI hk hn) hdg ?_
  rw [nI_clamp (Nat.lt_trans hk hn)]
  exact kk
theorem q_iast (hx : p.tables.exec = Jvm.exec) (hb : c.code = cc) (hK : va_K D vwCl tys s) (hP : va_P D vwCl ws H) (hD : va_D A ws) (hS : va_S A H0 H locs) (q0 t0 : Nat) {n : Nat} {f : Nat → Int32} (ha : ws[q0]? = some (a, .inl (cA, n, .inl f))) (ht : tys[t0]? = some (cA, .int)) (k : Nat) {i x : Int32} (hi : i = nI k) (hk : k < n) (hn : n < 2147483648) (hset : ws.set q0 (a, .inl (cA, n, .inl (upd f k x))) = ws1) (hdg : decode cc pc = .ok (.iastore, 1))
    (kk : ∀ (H1 : Heap) (locs1 : List Loc), va_P D vwCl ws1 H1 → va_D A ws1 → va_S A H0 H1 locs1 → W p l e R s m args below meth c H1 locs1 cells slots Q (F0 m (pc + 1) ls rest)) : W p l e R s m args below meth c H locs cells slots Q (F0 m pc ls (.int x :: .int i :: .ref a :: rest)) := by
  subst hi
  subst hset
  refine va_iast hx hb hK hP hD hS q0 t0 ha ht (vp_in_nI hk hn) hdg (fun H1 locs1 hP1 hD1 hS1 => ?_)
  rw [nI_clamp (Nat.lt_trans hk hn)] at hP1 hD1
  exact kk H1 locs1 hP1 hD1 hS1
theorem q_cb {y : MethodName} {bytes : ByteArray} {maxL n index : Nat} {ret : Option FieldType} {rm : Room} (hT : q_Tb s) (kc : q_ok (.code y bytes maxL ret)) (ki : q_ok (.initialized y.cls)) (hd : y.cls ≠ "java/lang/invoke/MethodHandle" ∧ y.cls ≠ "java/lang/invoke/VarHandle") (hp : (parseMethodDescriptor y.desc).map (fun d => d.parameters.length) = some n) (kl : q_ok (.methodLink own index y)) {mc ms : Nat} (hrc : rm.cells = mc) (hrs : rm.slots = ms) (hR : rm.frames + 1 ≤ R.frames ∧ 8 + (maxL + 11) + rm.locals ≤ R.locals) :
    CallB R s args own index y bytes maxL ret [Cond.code y bytes maxL ret] rm mc ms n := by
  refine ⟨hrc, hrs, hR.1, hR.2, fun w hw a' U hW => ?_, List.mem_cons_self, hT.use kc args, hT.use ki args, hd, fun sig h => ?_, hT.use kl args⟩
  · rw [List.mem_singleton.mp hw]
    exact (hT.moved hW).use kc a'
  · rw [h] at hp
    exact (Option.some.inj hp).symm
theorem q_pc {av : List Value} {w : va_W} (hT : q_Tb s) (hKc : va_K D vwCl [(cA, .int)] s) (hPc : va_P D vwCl w H) (hDc : va_D A w) (U : State) (hU : U.heap = H) (hW : s.WarmedH U.vm) : va_Pc av (q_In D cA w H.size) av.toArray U :=
  ⟨rfl, by rw [hU], by rw [hU]; exact hPc, va_K.moved hW.alike hKc, hDc.weaken (fun _ _ _ _ => trivial), hT.moved hW⟩
theorem q_part {cl : List vw_C} (hP : va_P D cl ws H) (is : List Nat) (hC : is.map (fun i => ws[i]?) = wc.map some) : va_P D cl wc H := fun k q hq => by
  have h1 : (is.map (fun i => ws[i]?))[k]? = some (some q) := by rw [hC, List.getElem?_map, hq]; rfl
  rw [List.getElem?_map] at h1
  cases hi : is[k]? with
  | none => rw [hi] at h1; cases h1
  | some i => rw [hi] at h1; exact hP i q (Option.some.inj h1)
theorem q_partD (hD : va_D A ws) (is : List Nat) (hn : va_nd is = true) (hC : is.map (fun i => ws[i]?) = wc.map some) : va_D A wc := hD.sub is hn hC
/-- a virtual call with an int answer -/
theorem q_callI {y : MethodName} {bytes : ByteArray} {maxL n index ci q0 b : Nat} {ret : Option FieldType} {rm : Room} {As : List Value} {r : Int32} {fs : List Value} {T : u_T} {N : Nat} {C : String}
    (hx : p.tables.exec = Jvm.exec) (hb : c.code = cc) (hml : c.maxLocals = nL) (hown : s.vm.findClass own = some m.cls) (hT : q_Tb s) (hK : va_K D vwCl [(cA, .int)] s) (hP : va_P D vwCl ws H) (hD : va_D A ws) (hS : va_S A H0 H locs) (hA : ∀ q : Nat, H0.size ≤ q → A q)
    (hM : q_CI l y [Cond.code y bytes maxL ret] rm D cA (.ref b :: As) wc r w1) (km : q_okM y bytes maxL ret n) (kl : q_ok (.methodLink own index y)) (hwc : wc[q0]? = some (b, .inr (ci, fs))) (hc : vwCl[ci]? = some (C, T, N)) (hyc : y.cls = C)
    (is : List Nat) (hn : va_nd is = true) (hC : is.map (fun i => ws[i]?) = wc.map some) (hset : q_set ws is w1 = ws1) (hadr : w1.map Prod.fst = wc.map Prod.fst) (hl : lv_has ls nL lv) (hlen : As.length = n) (hst : st = As.reverse ++ .ref b :: rest) (hw : (rest.map fun v => v.category).sum ≤ 8)
    (hR : (rm.cells = 0 ∧ rm.slots = 0) ∧ rm.frames + 1 ≤ R.frames ∧ 8 + (maxL + 11) + rm.locals ≤ R.locals) (hf : cells ≤ R.cells ∧ slots ≤ R.slots) (hdg : decode cc pc = .ok (.invokevirtual index, 3))
    (kk : ∀ (H1 : Heap) (locs1 : List Loc), va_P D vwCl ws1 H1 → va_D A ws1 → va_S A H0 H1 locs1 → W p l e R s m args below meth c H1 locs1 cells slots Q (F0 m (pc + 3) ls (.int r :: rest))) : W p l e R s m args below meth c H locs cells slots Q (F0 m pc ls st) := by
  subst hset
  obtain ⟨k1, k2, k3, k4, k5, k6⟩ := km
  have hPc : va_P D vwCl wc H := q_part hP is hC
  have hDc : va_D A wc := q_partD hD is hn hC
  have hF := va_free hD hS hA is hC
  refine va_calli (va_runV (As := As) (rest := rest) (Ts := []) ⟨hx, hb, hml, hown, fun _ h => absurd h List.not_mem_nil⟩ (hM H.size) (C := y.cls) ⟨q_cb hT k1 k2 k5 k6 kl hR.1.1 hR.1.2 hR.2, hT.use k3 args, hT.use k4 args⟩ ⟨q_blind, ?_, fun U hU hW => q_pc hT hK hPc hDc U hU hW⟩ rfl hlen hl.1 hst (lv_room hw) hdg hf) hS (fun q _ h => hF q h) hF (fun r' u t H1 locs1 ht hvm hpost hB hz1 hk1 hS1 => ?_)
  · obtain ⟨cell, g1, g2, g3⟩ := va_recv hK hPc hc hwc
    exact ⟨cell, g1, g2, by rw [hyc]; exact g3⟩
  · subst hpost
    have hB' : va_P D vwCl w1 H1 := ht ▸ hB
    obtain ⟨f1, f2⟩ := q_frame is hP hD hC hadr hk1 hB'
    exact kk H1 locs1 f1 f2 hS1
theorem q_callV {y : MethodName} {bytes : ByteArray} {maxL n index ci q0 b : Nat} {ret : Option FieldType} {rm : Room} {As : List Value} {fs : List Value} {T : u_T} {N : Nat} {C : String}
    (hx : p.tables.exec = Jvm.exec) (hb : c.code = cc) (hml : c.maxLocals = nL) (hown : s.vm.findClass own = some m.cls) (hT : q_Tb s) (hK : va_K D vwCl [(cA, .int)] s) (hP : va_P D vwCl ws H) (hD : va_D A ws) (hS : va_S A H0 H locs) (hA : ∀ q : Nat, H0.size ≤ q → A q)
    (hM : q_CV l y [Cond.code y bytes maxL ret] rm D cA (.ref b :: As) wc w1) (km : q_okM y bytes maxL ret n) (kl : q_ok (.methodLink own index y)) (hwc : wc[q0]? = some (b, .inr (ci, fs))) (hc : vwCl[ci]? = some (C, T, N)) (hyc : y.cls = C)
    (is : List Nat) (hn : va_nd is = true) (hC : is.map (fun i => ws[i]?) = wc.map some) (hset : q_set ws is w1 = ws1) (hadr : w1.map Prod.fst = wc.map Prod.fst) (hl : lv_has ls nL lv) (hlen : As.length = n) (hst : st = As.reverse ++ .ref b :: rest) (hw : (rest.map fun v => v.category).sum ≤ 8)
    (hR : (rm.cells = 0 ∧ rm.slots = 0) ∧ rm.frames + 1 ≤ R.frames ∧ 8 + (maxL + 11) + rm.locals ≤ R.locals) (hf : cells ≤ R.cells ∧ slots ≤ R.slots) (hdg : decode cc pc = .ok (.invokevirtual index, 3))
    (kk : ∀ (H1 : Heap) (locs1 : List Loc), va_P D vwCl ws1 H1 → va_D A ws1 → va_S A H0 H1 locs1 → W p l e R s m args below meth c H1 locs1 cells slots Q (F0 m (pc + 3) ls rest)) : W p l e R s m args below meth c H locs cells slots Q (F0 m pc ls st) := by
  subst hset
  obtain ⟨k1, k2, k3, k4, k5, k6⟩ := km
  have hPc : va_P D vwCl wc H := q_part hP is hC
  have hDc : va_D A wc := q_partD hD is hn hC
  have hF := va_free hD hS hA is hC
  refine va_callv (va_runV (As := As) (rest := rest) (Ts := []) ⟨hx, hb, hml, hown, fun _ h => absurd h List.not_mem_nil⟩ (hM H.size) (C := y.cls) ⟨q_cb hT k1 k2 k5 k6 kl hR.1.1 hR.1.2 hR.2, hT.use k3 args, hT.use k4 args⟩ ⟨q_blind, ?_, fun U hU hW => q_pc hT hK hPc hDc U hU hW⟩ rfl hlen hl.1 hst (lv_room hw) hdg hf) hS (fun q _ h => hF q h) hF (fun u t H1 locs1 ht hvm hpost hB hz1 hk1 hS1 => ?_)
  · obtain ⟨cell, g1, g2, g3⟩ := va_recv hK hPc hc hwc
    exact ⟨cell, g1, g2, by rw [hyc]; exact g3⟩
  · have hB' : va_P D vwCl w1 H1 := ht ▸ hB
    obtain ⟨f1, f2⟩ := q_frame is hP hD hC hadr hk1 hB'
    exact kk H1 locs1 f1 f2 hS1
/-- a static call -/
theorem q_callSI {y : MethodName} {bytes : ByteArray} {maxL n index : Nat} {ret : Option FieldType} {rm : Room} {As : List Value} {r : Int32}
    (hx : p.tables.exec = Jvm.exec) (hb : c.code = cc) (hml : c.maxLocals = nL) (hown : s.vm.findClass own = some m.cls) (hT : q_Tb s) (hK : va_K D vwCl [(cA, .int)] s) (hP : va_P D vwCl ws H) (hD : va_D A ws) (hS : va_S A H0 H locs) (hA : ∀ q : Nat, H0.size ≤ q → A q)
    (hM : q_CI l y [Cond.code y bytes maxL ret] rm D cA As [] r []) (km : q_okS y bytes maxL ret n) (kl : q_ok (.methodLink own index y)) (hl : lv_has ls nL lv) (hlen : As.length = n) (hst : st = As.reverse ++ rest) (hw : (rest.map fun v => v.category).sum ≤ 8)
    (hR : (rm.cells = 0 ∧ rm.slots = 0) ∧ rm.frames + 1 ≤ R.frames ∧ 8 + (maxL + 11) + rm.locals ≤ R.locals) (hf : cells ≤ R.cells ∧ slots ≤ R.slots) (hdg : decode cc pc = .ok (.invokestatic index, 3))
    (kk : ∀ (H1 : Heap) (locs1 : List Loc), va_P D vwCl ws H1 → va_D A ws → va_S A H0 H1 locs1 → W p l e R s m args below meth c H1 locs1 cells slots Q (F0 m (pc + 3) ls (.int r :: rest))) : W p l e R s m args below meth c H locs cells slots Q (F0 m pc ls st) := by
  obtain ⟨k1, k2, k3, k5, k6⟩ := km
  have hPc : va_P D vwCl [] H := fun k q h => by simp at h
  have hDc : va_D A [] := ⟨fun i j p q h => by simp at h, fun k q h => by simp at h⟩
  have hF : ∀ q, va_A [] H.size q → A q := va_free (wc := []) hD hS hA [] rfl
  refine va_calli (va_runS (As := As) (rest := rest) (Ts := []) ⟨hx, hb, hml, hown, fun _ h => absurd h List.not_mem_nil⟩ (hM H.size) ⟨q_cb hT k1 k2 k5 k6 kl hR.1.1 hR.1.2 hR.2, hT.use k3 args⟩ ⟨q_blind, fun U hU hW => q_pc hT hK hPc hDc U hU hW⟩ rfl hlen hl.1 hst (lv_room hw) hdg hf) hS (fun q _ h => hF q h) hF (fun r' u t H1 locs1 ht hvm hpost hB hz1 hk1 hS1 => ?_)
  subst hpost
  obtain ⟨f1, f2⟩ := q_frame [] hP hD (wc := []) (w1 := []) rfl rfl hk1 (fun k q h => by simp at h)
  exact kk H1 locs1 f1 f2 hS1
theorem q_callSV {y : MethodName} {bytes : ByteArray} {maxL n index : Nat} {ret : Option FieldType} {rm : Room} {As : List Value}
    (hx : p.tables.exec = Jvm.exec) (hb : c.code = cc) (hml : c.maxLocals = nL) (hown : s.vm.findClass own = some m.cls) (hT : q_Tb s) (hK : va_K D vwCl [(cA, .int)] s) (hP : va_P D vwCl ws H) (hD : va_D A ws) (hS : va_S A H0 H locs) (hA : ∀ q : Nat, H0.size ≤ q → A q)
    (hM : q_CV l y [Cond.code y bytes maxL ret] rm D cA As [] []) (km : q_okS y bytes maxL ret n) (kl : q_ok (.methodLink own index y)) (hl : lv_has ls nL lv) (hlen : As.length = n) (hst : st = As.reverse ++ rest) (hw : (rest.map fun v => v.category).sum ≤ 8)
    (hR : (rm.cells = 0 ∧ rm.slots = 0) ∧ rm.frames + 1 ≤ R.frames ∧ 8 + (maxL + 11) + rm.locals ≤ R.locals) (hf : cells ≤ R.cells ∧ slots ≤ R.slots) (hdg : decode cc pc = .ok (.invokestatic index, 3))
    (kk : ∀ (H1 : Heap) (locs1 : List Loc), va_P D vwCl ws H1 → va_D A ws → va_S A H0 H1 locs1 → W p l e R s m args below meth c H1 locs1 cells slots Q (F0 m (pc + 3) ls rest)) : W p l e R s m args below meth c H locs cells slots Q (F0 m pc ls st) := by
  obtain ⟨k1, k2, k3, k5, k6⟩ := km
  have hPc : va_P D vwCl [] H := fun k q h => by simp at h
  have hDc : va_D A [] := ⟨fun i j p q h => by simp at h, fun k q h => by simp at h⟩
  have hF : ∀ q, va_A [] H.size q → A q := va_free (wc := []) hD hS hA [] rfl
  refine va_callv (va_runS (As := As) (rest := rest) (Ts := []) ⟨hx, hb, hml, hown, fun _ h => absurd h List.not_mem_nil⟩ (hM H.size) ⟨q_cb hT k1 k2 k5 k6 kl hR.1.1 hR.1.2 hR.2, hT.use k3 args⟩ ⟨q_blind, fun U hU hW => q_pc hT hK hPc hDc U hU hW⟩ rfl hlen hl.1 hst (lv_room hw) hdg hf) hS (fun q _ h => hF q h) hF (fun u t H1 locs1 ht hvm hpost hB hz1 hk1 hS1 => ?_)
  obtain ⟨f1, f2⟩ := q_frame [] hP hD (wc := []) (w1 := []) rfl rfl hk1 (fun k q h => by simp at h)
  exact kk H1 locs1 f1 f2 hS1
theorem q_max {index : Nat} (hx : p.tables.exec = Jvm.exec) (hb : c.code = cc) (hml : c.maxLocals = nL) (hown : s.vm.findClass own = some m.cls) (hT : q_Tb s) (hl : lv_has ls nL lv) (kl : q_ok (.methodLink own index Lib.Math.max.name)) (hframes : 1 ≤ R.frames) (hlocals : (rest.map fun v => v.category).sum + 13 ≤ R.locals) (hc : cells ≤ R.cells ∧ slots ≤ R.slots) {x y : Int32} (hdg : decode cc pc = .ok (.invokestatic index, 3))
    (kk : W p l e R s m args below meth c H locs cells slots Q (F0 m (pc + 3) ls (.int (if x < y then y else x) :: rest))) : W p l e R s m args below meth c H locs cells slots Q (F0 m pc ls (.int y :: .int x :: rest)) :=
  va_mmax hx hb (hml.trans hl.1.symm) hown (hT.use kl args) (hT.use k_Lib_Math_max_name.2.2.1 args) (hT.use k_Lib_Math_max_name.2.1 args) (hT.use k_Lib_Math_max_name.1 args) hframes hlocals hc.1 hc.2 hdg kk
theorem q_min {index : Nat} (hx : p.tables.exec = Jvm.exec) (hb : c.code = cc) (hml : c.maxLocals = nL) (hown : s.vm.findClass own = some m.cls) (hT : q_Tb s) (hl : lv_has ls nL lv) (kl : q_ok (.methodLink own index Lib.Math.min.name)) (hframes : 1 ≤ R.frames) (hlocals : (rest.map fun v => v.category).sum + 13 ≤ R.locals) (hc : cells ≤ R.cells ∧ slots ≤ R.slots) {x y : Int32} (hdg : decode cc pc = .ok (.invokestatic index, 3))
    (kk : W p l e R s m args below meth c H locs cells slots Q (F0 m (pc + 3) ls (.int (if y < x then y else x) :: rest))) : W p l e R s m args below meth c H locs cells slots Q (F0 m pc ls (.int y :: .int x :: rest)) := by
  refine va_mmin hx hb (hml.trans hl.1.symm) hown (hT.use kl args) (hT.use k_Lib_Math_min_name.2.2.1 args) (hT.use k_Lib_Math_min_name.2.1 args) (hT.use k_Lib_Math_min_name.1 args) hframes hlocals hc.1 hc.2 hdg ?_
  exact kk
end QW
theorem lv_cast {ls : Array Slot} {nL : Nat} {l l' : List (Nat × Value)} (h : lv_has ls nL l) (e : l = l') : lv_has ls nL l' := e ▸ h
theorem va_cast' {D : va_G} {cl : List vw_C} {w w' : va_W} {H : Heap} (h : va_P D cl w H) (e : w = w') : va_P D cl w' H := e ▸ h
theorem va_castD {A : Nat → Prop} {w w' : va_W} (h : va_D A w) (e : w = w') : va_D A w' := e ▸ h
end
section
theorem dX0_init_0 : decode cX0_init 0 = .ok (.aload_n 0, 1) := by decide +kernel
theorem dX0_init_1 : decode cX0_init 1 = .ok (.invokespecial 3, 3) := by decide +kernel
theorem dX0_init_4 : decode cX0_init 4 = .ok (.aload_n 0, 1) := by decide +kernel
theorem dX0_init_5 : decode cX0_init 5 = .ok (.new 9, 3) := by decide +kernel
theorem dX0_init_8 : decode cX0_init 8 = .ok (.dup, 1) := by decide +kernel
theorem dX0_init_9 : decode cX0_init 9 = .ok (.bipush 6, 2) := by decide +kernel
theorem dX0_init_11 : decode cX0_init 11 = .ok (.invokespecial 11, 3) := by decide +kernel
theorem dX0_init_14 : decode cX0_init 14 = .ok (.putfield 14, 3) := by decide +kernel
theorem dX0_init_17 : decode cX0_init 17 = .ok (.aload_n 0, 1) := by decide +kernel
theorem dX0_init_18 : decode cX0_init 18 = .ok (.new 9, 3) := by decide +kernel
theorem dX0_init_21 : decode cX0_init 21 = .ok (.dup, 1) := by decide +kernel
theorem dX0_init_22 : decode cX0_init 22 = .ok (.bipush 36, 2) := by decide +kernel
theorem dX0_init_24 : decode cX0_init 24 = .ok (.invokespecial 11, 3) := by decide +kernel
theorem dX0_init_27 : decode cX0_init 27 = .ok (.putfield 20, 3) := by decide +kernel
theorem dX0_init_30 : decode cX0_init 30 = .ok (.aload_n 0, 1) := by decide +kernel
theorem dX0_init_31 : decode cX0_init 31 = .ok (.new 9, 3) := by decide +kernel
theorem dX0_init_34 : decode cX0_init 34 = .ok (.dup, 1) := by decide +kernel
theorem dX0_init_35 : decode cX0_init 35 = .ok (.bipush 64, 2) := by decide +kernel
theorem dX0_init_37 : decode cX0_init 37 = .ok (.invokespecial 11, 3) := by decide +kernel
theorem dX0_init_40 : decode cX0_init 40 = .ok (.putfield 23, 3) := by decide +kernel
theorem dX0_init_43 : decode cX0_init 43 = .ok (.aload_n 0, 1) := by decide +kernel
theorem dX0_init_44 : decode cX0_init 44 = .ok (.new 9, 3) := by decide +kernel
theorem dX0_init_47 : decode cX0_init 47 = .ok (.dup, 1) := by decide +kernel
theorem dX0_init_48 : decode cX0_init 48 = .ok (.bipush 64, 2) := by decide +kernel
theorem dX0_init_50 : decode cX0_init 50 = .ok (.invokespecial 11, 3) := by decide +kernel
theorem dX0_init_53 : decode cX0_init 53 = .ok (.putfield 26, 3) := by decide +kernel
theorem dX0_init_56 : decode cX0_init 56 = .ok (.aload_n 0, 1) := by decide +kernel
theorem dX0_init_57 : decode cX0_init 57 = .ok (.new 9, 3) := by decide +kernel
theorem dX0_init_60 : decode cX0_init 60 = .ok (.dup, 1) := by decide +kernel
theorem dX0_init_61 : decode cX0_init 61 = .ok (.bipush 6, 2) := by decide +kernel
theorem dX0_init_63 : decode cX0_init 63 = .ok (.invokespecial 11, 3) := by decide +kernel
theorem dX0_init_66 : decode cX0_init 66 = .ok (.putfield 29, 3) := by decide +kernel
theorem dX0_init_69 : decode cX0_init 69 = .ok (.return_, 1) := by decide +kernel
theorem dX0_clear_0 : decode cX0_clear 0 = .ok (.aload_n 0, 1) := by decide +kernel
theorem dX0_clear_1 : decode cX0_clear 1 = .ok (.iconst 0, 1) := by decide +kernel
theorem dX0_clear_2 : decode cX0_clear 2 = .ok (.putfield 32, 3) := by decide +kernel
theorem dX0_clear_5 : decode cX0_clear 5 = .ok (.return_, 1) := by decide +kernel
theorem dX0_add_0 : decode cX0_add 0 = .ok (.aload_n 0, 1) := by decide +kernel
theorem dX0_add_1 : decode cX0_add 1 = .ok (.getfield 14, 3) := by decide +kernel
theorem dX0_add_4 : decode cX0_add 4 = .ok (.aload_n 0, 1) := by decide +kernel
theorem dX0_add_5 : decode cX0_add 5 = .ok (.getfield 32, 3) := by decide +kernel
theorem dX0_add_8 : decode cX0_add 8 = .ok (.iload_n 1, 1) := by decide +kernel
theorem dX0_add_9 : decode cX0_add 9 = .ok (.invokevirtual 36, 3) := by decide +kernel
theorem dX0_add_12 : decode cX0_add 12 = .ok (.aload_n 0, 1) := by decide +kernel
theorem dX0_add_13 : decode cX0_add 13 = .ok (.dup, 1) := by decide +kernel
theorem dX0_add_14 : decode cX0_add 14 = .ok (.getfield 32, 3) := by decide +kernel
theorem dX0_add_17 : decode cX0_add 17 = .ok (.iconst 1, 1) := by decide +kernel
theorem dX0_add_18 : decode cX0_add 18 = .ok (.iadd, 1) := by decide +kernel
theorem dX0_add_19 : decode cX0_add 19 = .ok (.putfield 32, 3) := by decide +kernel
theorem dX0_add_22 : decode cX0_add 22 = .ok (.return_, 1) := by decide +kernel
theorem dX0_count_0 : decode cX0_count 0 = .ok (.aload_n 0, 1) := by decide +kernel
theorem dX0_count_1 : decode cX0_count 1 = .ok (.getfield 32, 3) := by decide +kernel
theorem dX0_count_4 : decode cX0_count 4 = .ok (.ireturn, 1) := by decide +kernel
theorem dX0_mentionAt_0 : decode cX0_mentionAt 0 = .ok (.aload_n 0, 1) := by decide +kernel
theorem dX0_mentionAt_1 : decode cX0_mentionAt 1 = .ok (.getfield 14, 3) := by decide +kernel
theorem dX0_mentionAt_4 : decode cX0_mentionAt 4 = .ok (.iload_n 1, 1) := by decide +kernel
theorem dX0_mentionAt_5 : decode cX0_mentionAt 5 = .ok (.invokevirtual 40, 3) := by decide +kernel
theorem dX0_mentionAt_8 : decode cX0_mentionAt 8 = .ok (.ireturn, 1) := by decide +kernel
theorem dX0_putWorth_0 : decode cX0_putWorth 0 = .ok (.aload_n 0, 1) := by decide +kernel
theorem dX0_putWorth_1 : decode cX0_putWorth 1 = .ok (.getfield 20, 3) := by decide +kernel
theorem dX0_putWorth_4 : decode cX0_putWorth 4 = .ok (.iload_n 1, 1) := by decide +kernel
theorem dX0_putWorth_5 : decode cX0_putWorth 5 = .ok (.bipush 6, 2) := by decide +kernel
theorem dX0_putWorth_7 : decode cX0_putWorth 7 = .ok (.imul, 1) := by decide +kernel
theorem dX0_putWorth_8 : decode cX0_putWorth 8 = .ok (.iload_n 2, 1) := by decide +kernel
theorem dX0_putWorth_9 : decode cX0_putWorth 9 = .ok (.iadd, 1) := by decide +kernel
theorem dX0_putWorth_10 : decode cX0_putWorth 10 = .ok (.iload_n 3, 1) := by decide +kernel
theorem dX0_putWorth_11 : decode cX0_putWorth 11 = .ok (.invokevirtual 36, 3) := by decide +kernel
theorem dX0_putWorth_14 : decode cX0_putWorth 14 = .ok (.return_, 1) := by decide +kernel
theorem dX0_pairWorth_0 : decode cX0_pairWorth 0 = .ok (.aload_n 0, 1) := by decide +kernel
theorem dX0_pairWorth_1 : decode cX0_pairWorth 1 = .ok (.getfield 20, 3) := by decide +kernel
theorem dX0_pairWorth_4 : decode cX0_pairWorth 4 = .ok (.iload_n 1, 1) := by decide +kernel
theorem dX0_pairWorth_5 : decode cX0_pairWorth 5 = .ok (.bipush 6, 2) := by decide +kernel
theorem dX0_pairWorth_7 : decode cX0_pairWorth 7 = .ok (.imul, 1) := by decide +kernel
theorem dX0_pairWorth_8 : decode cX0_pairWorth 8 = .ok (.iload_n 2, 1) := by decide +kernel
theorem dX0_pairWorth_9 : decode cX0_pairWorth 9 = .ok (.iadd, 1) := by decide +kernel
theorem dX0_pairWorth_10 : decode cX0_pairWorth 10 = .ok (.invokevirtual 40, 3) := by decide +kernel
theorem dX0_pairWorth_13 : decode cX0_pairWorth 13 = .ok (.ireturn, 1) := by decide +kernel
theorem dX0_bestByParts_0 : decode cX0_bestByParts 0 = .ok (.iconst 1, 1) := by decide +kernel
theorem dX0_bestByParts_1 : decode cX0_bestByParts 1 = .ok (.aload_n 0, 1) := by decide +kernel
theorem dX0_bestByParts_2 : decode cX0_bestByParts 2 = .ok (.getfield 32, 3) := by decide +kernel
theorem dX0_bestByParts_5 : decode cX0_bestByParts 5 = .ok (.ishl, 1) := by decide +kernel
theorem dX0_bestByParts_6 : decode cX0_bestByParts 6 = .ok (.iconst 1, 1) := by decide +kernel
theorem dX0_bestByParts_7 : decode cX0_bestByParts 7 = .ok (.isub, 1) := by decide +kernel
theorem dX0_bestByParts_8 : decode cX0_bestByParts 8 = .ok (.istore_n 1, 1) := by decide +kernel
theorem dX0_bestByParts_9 : decode cX0_bestByParts 9 = .ok (.aload_n 0, 1) := by decide +kernel
theorem dX0_bestByParts_10 : decode cX0_bestByParts 10 = .ok (.getfield 26, 3) := by decide +kernel
theorem dX0_bestByParts_13 : decode cX0_bestByParts 13 = .ok (.iconst 0, 1) := by decide +kernel
theorem dX0_bestByParts_14 : decode cX0_bestByParts 14 = .ok (.iconst 0, 1) := by decide +kernel
theorem dX0_bestByParts_15 : decode cX0_bestByParts 15 = .ok (.invokevirtual 36, 3) := by decide +kernel
theorem dX0_bestByParts_18 : decode cX0_bestByParts 18 = .ok (.iconst 1, 1) := by decide +kernel
theorem dX0_bestByParts_19 : decode cX0_bestByParts 19 = .ok (.istore_n 2, 1) := by decide +kernel
theorem dX0_bestByParts_20 : decode cX0_bestByParts 20 = .ok (.iload_n 2, 1) := by decide +kernel
theorem dX0_bestByParts_21 : decode cX0_bestByParts 21 = .ok (.iload_n 1, 1) := by decide +kernel
theorem dX0_bestByParts_22 : decode cX0_bestByParts 22 = .ok (.if_icmp .gt 35, 3) := by decide +kernel
theorem dX0_bestByParts_25 : decode cX0_bestByParts 25 = .ok (.aload_n 0, 1) := by decide +kernel
theorem dX0_bestByParts_26 : decode cX0_bestByParts 26 = .ok (.getfield 23, 3) := by decide +kernel
theorem dX0_bestByParts_29 : decode cX0_bestByParts 29 = .ok (.iload_n 2, 1) := by decide +kernel
theorem dX0_bestByParts_30 : decode cX0_bestByParts 30 = .ok (.aload_n 0, 1) := by decide +kernel
theorem dX0_bestByParts_31 : decode cX0_bestByParts 31 = .ok (.iload_n 2, 1) := by decide +kernel
theorem dX0_bestByParts_32 : decode cX0_bestByParts 32 = .ok (.invokevirtual 44, 3) := by decide +kernel
theorem dX0_bestByParts_35 : decode cX0_bestByParts 35 = .ok (.invokevirtual 36, 3) := by decide +kernel
theorem dX0_bestByParts_38 : decode cX0_bestByParts 38 = .ok (.aload_n 0, 1) := by decide +kernel
theorem dX0_bestByParts_39 : decode cX0_bestByParts 39 = .ok (.getfield 26, 3) := by decide +kernel
theorem dX0_bestByParts_42 : decode cX0_bestByParts 42 = .ok (.iload_n 2, 1) := by decide +kernel
theorem dX0_bestByParts_43 : decode cX0_bestByParts 43 = .ok (.aload_n 0, 1) := by decide +kernel
theorem dX0_bestByParts_44 : decode cX0_bestByParts 44 = .ok (.iload_n 2, 1) := by decide +kernel
theorem dX0_bestByParts_45 : decode cX0_bestByParts 45 = .ok (.invokevirtual 47, 3) := by decide +kernel
theorem dX0_bestByParts_48 : decode cX0_bestByParts 48 = .ok (.invokevirtual 36, 3) := by decide +kernel
theorem dX0_bestByParts_51 : decode cX0_bestByParts 51 = .ok (.iinc 2 1, 3) := by decide +kernel
theorem dX0_bestByParts_54 : decode cX0_bestByParts 54 = .ok (.goto (-34), 3) := by decide +kernel
theorem dX0_bestByParts_57 : decode cX0_bestByParts 57 = .ok (.aload_n 0, 1) := by decide +kernel
theorem dX0_bestByParts_58 : decode cX0_bestByParts 58 = .ok (.getfield 26, 3) := by decide +kernel
theorem dX0_bestByParts_61 : decode cX0_bestByParts 61 = .ok (.iload_n 1, 1) := by decide +kernel
theorem dX0_bestByParts_62 : decode cX0_bestByParts 62 = .ok (.invokevirtual 40, 3) := by decide +kernel
theorem dX0_bestByParts_65 : decode cX0_bestByParts 65 = .ok (.ireturn, 1) := by decide +kernel
theorem dX0_worthOfGroup_0 : decode cX0_worthOfGroup 0 = .ok (.iconst 0, 1) := by decide +kernel
theorem dX0_worthOfGroup_1 : decode cX0_worthOfGroup 1 = .ok (.istore_n 2, 1) := by decide +kernel
theorem dX0_worthOfGroup_2 : decode cX0_worthOfGroup 2 = .ok (.iconst 0, 1) := by decide +kernel
theorem dX0_worthOfGroup_3 : decode cX0_worthOfGroup 3 = .ok (.istore_n 3, 1) := by decide +kernel
theorem dX0_worthOfGroup_4 : decode cX0_worthOfGroup 4 = .ok (.iload_n 3, 1) := by decide +kernel
theorem dX0_worthOfGroup_5 : decode cX0_worthOfGroup 5 = .ok (.aload_n 0, 1) := by decide +kernel
theorem dX0_worthOfGroup_6 : decode cX0_worthOfGroup 6 = .ok (.getfield 32, 3) := by decide +kernel
theorem dX0_worthOfGroup_9 : decode cX0_worthOfGroup 9 = .ok (.if_icmp .ge 88, 3) := by decide +kernel
theorem dX0_worthOfGroup_12 : decode cX0_worthOfGroup 12 = .ok (.iload_n 3, 1) := by decide +kernel
theorem dX0_worthOfGroup_13 : decode cX0_worthOfGroup 13 = .ok (.iconst 1, 1) := by decide +kernel
theorem dX0_worthOfGroup_14 : decode cX0_worthOfGroup 14 = .ok (.iadd, 1) := by decide +kernel
theorem dX0_worthOfGroup_15 : decode cX0_worthOfGroup 15 = .ok (.istore 4, 2) := by decide +kernel
theorem dX0_worthOfGroup_17 : decode cX0_worthOfGroup 17 = .ok (.iload 4, 2) := by decide +kernel
theorem dX0_worthOfGroup_19 : decode cX0_worthOfGroup 19 = .ok (.aload_n 0, 1) := by decide +kernel
theorem dX0_worthOfGroup_20 : decode cX0_worthOfGroup 20 = .ok (.getfield 32, 3) := by decide +kernel
theorem dX0_worthOfGroup_23 : decode cX0_worthOfGroup 23 = .ok (.if_icmp .ge 68, 3) := by decide +kernel
theorem dX0_worthOfGroup_26 : decode cX0_worthOfGroup 26 = .ok (.iload_n 1, 1) := by decide +kernel
theorem dX0_worthOfGroup_27 : decode cX0_worthOfGroup 27 = .ok (.iload_n 3, 1) := by decide +kernel
theorem dX0_worthOfGroup_28 : decode cX0_worthOfGroup 28 = .ok (.ishr, 1) := by decide +kernel
theorem dX0_worthOfGroup_29 : decode cX0_worthOfGroup 29 = .ok (.iload_n 1, 1) := by decide +kernel
theorem dX0_worthOfGroup_30 : decode cX0_worthOfGroup 30 = .ok (.iload 4, 2) := by decide +kernel
theorem dX0_worthOfGroup_32 : decode cX0_worthOfGroup 32 = .ok (.ishr, 1) := by decide +kernel
theorem dX0_worthOfGroup_33 : decode cX0_worthOfGroup 33 = .ok (.iand, 1) := by decide +kernel
theorem dX0_worthOfGroup_34 : decode cX0_worthOfGroup 34 = .ok (.iconst 1, 1) := by decide +kernel
theorem dX0_worthOfGroup_35 : decode cX0_worthOfGroup 35 = .ok (.iand, 1) := by decide +kernel
theorem dX0_worthOfGroup_36 : decode cX0_worthOfGroup 36 = .ok (.ifCond .eq 7, 3) := by decide +kernel
theorem dX0_worthOfGroup_39 : decode cX0_worthOfGroup 39 = .ok (.iconst 1, 1) := by decide +kernel
theorem dX0_worthOfGroup_40 : decode cX0_worthOfGroup 40 = .ok (.goto 4, 3) := by decide +kernel
theorem dX0_worthOfGroup_43 : decode cX0_worthOfGroup 43 = .ok (.iconst 0, 1) := by decide +kernel
theorem dX0_worthOfGroup_44 : decode cX0_worthOfGroup 44 = .ok (.istore 5, 2) := by decide +kernel
theorem dX0_worthOfGroup_46 : decode cX0_worthOfGroup 46 = .ok (.iload 5, 2) := by decide +kernel
theorem dX0_worthOfGroup_48 : decode cX0_worthOfGroup 48 = .ok (.ifCond .eq 18, 3) := by decide +kernel
theorem dX0_worthOfGroup_51 : decode cX0_worthOfGroup 51 = .ok (.aload_n 0, 1) := by decide +kernel
theorem dX0_worthOfGroup_52 : decode cX0_worthOfGroup 52 = .ok (.iload_n 3, 1) := by decide +kernel
theorem dX0_worthOfGroup_53 : decode cX0_worthOfGroup 53 = .ok (.iload 4, 2) := by decide +kernel
theorem dX0_worthOfGroup_55 : decode cX0_worthOfGroup 55 = .ok (.invokevirtual 50, 3) := by decide +kernel
theorem dX0_worthOfGroup_58 : decode cX0_worthOfGroup 58 = .ok (.ldc 54, 2) := by decide +kernel
theorem dX0_worthOfGroup_60 : decode cX0_worthOfGroup 60 = .ok (.if_icmp .ne 6, 3) := by decide +kernel
theorem dX0_worthOfGroup_63 : decode cX0_worthOfGroup 63 = .ok (.ldc 54, 2) := by decide +kernel
theorem dX0_worthOfGroup_65 : decode cX0_worthOfGroup 65 = .ok (.ireturn, 1) := by decide +kernel
theorem dX0_worthOfGroup_66 : decode cX0_worthOfGroup 66 = .ok (.iload_n 2, 1) := by decide +kernel
theorem dX0_worthOfGroup_67 : decode cX0_worthOfGroup 67 = .ok (.iload 5, 2) := by decide +kernel
theorem dX0_worthOfGroup_69 : decode cX0_worthOfGroup 69 = .ok (.ifCond .eq 13, 3) := by decide +kernel
theorem dX0_worthOfGroup_72 : decode cX0_worthOfGroup 72 = .ok (.aload_n 0, 1) := by decide +kernel
theorem dX0_worthOfGroup_73 : decode cX0_worthOfGroup 73 = .ok (.iload_n 3, 1) := by decide +kernel
theorem dX0_worthOfGroup_74 : decode cX0_worthOfGroup 74 = .ok (.iload 4, 2) := by decide +kernel
theorem dX0_worthOfGroup_76 : decode cX0_worthOfGroup 76 = .ok (.invokevirtual 50, 3) := by decide +kernel
theorem dX0_worthOfGroup_79 : decode cX0_worthOfGroup 79 = .ok (.goto 4, 3) := by decide +kernel
theorem dX0_worthOfGroup_82 : decode cX0_worthOfGroup 82 = .ok (.iconst 0, 1) := by decide +kernel
theorem dX0_worthOfGroup_83 : decode cX0_worthOfGroup 83 = .ok (.iadd, 1) := by decide +kernel
theorem dX0_worthOfGroup_84 : decode cX0_worthOfGroup 84 = .ok (.istore_n 2, 1) := by decide +kernel
theorem dX0_worthOfGroup_85 : decode cX0_worthOfGroup 85 = .ok (.iinc 4 1, 3) := by decide +kernel
theorem dX0_worthOfGroup_88 : decode cX0_worthOfGroup 88 = .ok (.goto (-71), 3) := by decide +kernel
theorem dX0_worthOfGroup_91 : decode cX0_worthOfGroup 91 = .ok (.iinc 3 1, 3) := by decide +kernel
theorem dX0_worthOfGroup_94 : decode cX0_worthOfGroup 94 = .ok (.goto (-90), 3) := by decide +kernel
theorem dX0_worthOfGroup_97 : decode cX0_worthOfGroup 97 = .ok (.iload_n 2, 1) := by decide +kernel
theorem dX0_worthOfGroup_98 : decode cX0_worthOfGroup 98 = .ok (.ireturn, 1) := by decide +kernel
theorem dX0_bestOfSet_0 : decode cX0_bestOfSet 0 = .ok (.iload_n 1, 1) := by decide +kernel
theorem dX0_bestOfSet_1 : decode cX0_bestOfSet 1 = .ok (.iload_n 1, 1) := by decide +kernel
theorem dX0_bestOfSet_2 : decode cX0_bestOfSet 2 = .ok (.ineg, 1) := by decide +kernel
theorem dX0_bestOfSet_3 : decode cX0_bestOfSet 3 = .ok (.iand, 1) := by decide +kernel
theorem dX0_bestOfSet_4 : decode cX0_bestOfSet 4 = .ok (.istore_n 2, 1) := by decide +kernel
theorem dX0_bestOfSet_5 : decode cX0_bestOfSet 5 = .ok (.ldc 54, 2) := by decide +kernel
theorem dX0_bestOfSet_7 : decode cX0_bestOfSet 7 = .ok (.istore_n 3, 1) := by decide +kernel
theorem dX0_bestOfSet_8 : decode cX0_bestOfSet 8 = .ok (.iload_n 2, 1) := by decide +kernel
theorem dX0_bestOfSet_9 : decode cX0_bestOfSet 9 = .ok (.istore 4, 2) := by decide +kernel
theorem dX0_bestOfSet_11 : decode cX0_bestOfSet 11 = .ok (.iload 4, 2) := by decide +kernel
theorem dX0_bestOfSet_13 : decode cX0_bestOfSet 13 = .ok (.iload_n 1, 1) := by decide +kernel
theorem dX0_bestOfSet_14 : decode cX0_bestOfSet 14 = .ok (.if_icmp .gt 77, 3) := by decide +kernel
theorem dX0_bestOfSet_17 : decode cX0_bestOfSet 17 = .ok (.iload 4, 2) := by decide +kernel
theorem dX0_bestOfSet_19 : decode cX0_bestOfSet 19 = .ok (.iload_n 1, 1) := by decide +kernel
theorem dX0_bestOfSet_20 : decode cX0_bestOfSet 20 = .ok (.iand, 1) := by decide +kernel
theorem dX0_bestOfSet_21 : decode cX0_bestOfSet 21 = .ok (.iload 4, 2) := by decide +kernel
theorem dX0_bestOfSet_23 : decode cX0_bestOfSet 23 = .ok (.if_icmp .ne 14, 3) := by decide +kernel
theorem dX0_bestOfSet_26 : decode cX0_bestOfSet 26 = .ok (.iload 4, 2) := by decide +kernel
theorem dX0_bestOfSet_28 : decode cX0_bestOfSet 28 = .ok (.iload_n 2, 1) := by decide +kernel
theorem dX0_bestOfSet_29 : decode cX0_bestOfSet 29 = .ok (.iand, 1) := by decide +kernel
theorem dX0_bestOfSet_30 : decode cX0_bestOfSet 30 = .ok (.ifCond .eq 7, 3) := by decide +kernel
theorem dX0_bestOfSet_33 : decode cX0_bestOfSet 33 = .ok (.iconst 1, 1) := by decide +kernel
theorem dX0_bestOfSet_34 : decode cX0_bestOfSet 34 = .ok (.goto 4, 3) := by decide +kernel
theorem dX0_bestOfSet_37 : decode cX0_bestOfSet 37 = .ok (.iconst 0, 1) := by decide +kernel
theorem dX0_bestOfSet_38 : decode cX0_bestOfSet 38 = .ok (.istore 5, 2) := by decide +kernel
theorem dX0_bestOfSet_40 : decode cX0_bestOfSet 40 = .ok (.iload 5, 2) := by decide +kernel
theorem dX0_bestOfSet_42 : decode cX0_bestOfSet 42 = .ok (.ifCond .eq 43, 3) := by decide +kernel
theorem dX0_bestOfSet_45 : decode cX0_bestOfSet 45 = .ok (.aload_n 0, 1) := by decide +kernel
theorem dX0_bestOfSet_46 : decode cX0_bestOfSet 46 = .ok (.getfield 23, 3) := by decide +kernel
theorem dX0_bestOfSet_49 : decode cX0_bestOfSet 49 = .ok (.iload 4, 2) := by decide +kernel
theorem dX0_bestOfSet_51 : decode cX0_bestOfSet 51 = .ok (.invokevirtual 40, 3) := by decide +kernel
theorem dX0_bestOfSet_54 : decode cX0_bestOfSet 54 = .ok (.ldc 54, 2) := by decide +kernel
theorem dX0_bestOfSet_56 : decode cX0_bestOfSet 56 = .ok (.if_icmp .eq 29, 3) := by decide +kernel
theorem dX0_bestOfSet_59 : decode cX0_bestOfSet 59 = .ok (.iload_n 3, 1) := by decide +kernel
theorem dX0_bestOfSet_60 : decode cX0_bestOfSet 60 = .ok (.aload_n 0, 1) := by decide +kernel
theorem dX0_bestOfSet_61 : decode cX0_bestOfSet 61 = .ok (.getfield 23, 3) := by decide +kernel
theorem dX0_bestOfSet_64 : decode cX0_bestOfSet 64 = .ok (.iload 4, 2) := by decide +kernel
theorem dX0_bestOfSet_66 : decode cX0_bestOfSet 66 = .ok (.invokevirtual 40, 3) := by decide +kernel
theorem dX0_bestOfSet_69 : decode cX0_bestOfSet 69 = .ok (.aload_n 0, 1) := by decide +kernel
theorem dX0_bestOfSet_70 : decode cX0_bestOfSet 70 = .ok (.getfield 26, 3) := by decide +kernel
theorem dX0_bestOfSet_73 : decode cX0_bestOfSet 73 = .ok (.iload_n 1, 1) := by decide +kernel
theorem dX0_bestOfSet_74 : decode cX0_bestOfSet 74 = .ok (.iload 4, 2) := by decide +kernel
theorem dX0_bestOfSet_76 : decode cX0_bestOfSet 76 = .ok (.ixor, 1) := by decide +kernel
theorem dX0_bestOfSet_77 : decode cX0_bestOfSet 77 = .ok (.invokevirtual 40, 3) := by decide +kernel
theorem dX0_bestOfSet_80 : decode cX0_bestOfSet 80 = .ok (.iadd, 1) := by decide +kernel
theorem dX0_bestOfSet_81 : decode cX0_bestOfSet 81 = .ok (.invokestatic 55, 3) := by decide +kernel
theorem dX0_bestOfSet_84 : decode cX0_bestOfSet 84 = .ok (.istore_n 3, 1) := by decide +kernel
theorem dX0_bestOfSet_85 : decode cX0_bestOfSet 85 = .ok (.iinc 4 1, 3) := by decide +kernel
theorem dX0_bestOfSet_88 : decode cX0_bestOfSet 88 = .ok (.goto (-77), 3) := by decide +kernel
theorem dX0_bestOfSet_91 : decode cX0_bestOfSet 91 = .ok (.iload_n 3, 1) := by decide +kernel
theorem dX0_bestOfSet_92 : decode cX0_bestOfSet 92 = .ok (.ireturn, 1) := by decide +kernel
theorem dX0_bestOfAll_0 : decode cX0_bestOfAll 0 = .ok (.aload_n 0, 1) := by decide +kernel
theorem dX0_bestOfAll_1 : decode cX0_bestOfAll 1 = .ok (.getfield 29, 3) := by decide +kernel
theorem dX0_bestOfAll_4 : decode cX0_bestOfAll 4 = .ok (.iconst 0, 1) := by decide +kernel
theorem dX0_bestOfAll_5 : decode cX0_bestOfAll 5 = .ok (.invokevirtual 60, 3) := by decide +kernel
theorem dX0_bestOfAll_8 : decode cX0_bestOfAll 8 = .ok (.aload_n 0, 1) := by decide +kernel
theorem dX0_bestOfAll_9 : decode cX0_bestOfAll 9 = .ok (.invokevirtual 63, 3) := by decide +kernel
theorem dX0_bestOfAll_12 : decode cX0_bestOfAll 12 = .ok (.istore_n 1, 1) := by decide +kernel
theorem dX0_bestOfAll_13 : decode cX0_bestOfAll 13 = .ok (.iconst 1, 1) := by decide +kernel
theorem dX0_bestOfAll_14 : decode cX0_bestOfAll 14 = .ok (.istore_n 2, 1) := by decide +kernel
theorem dX0_bestOfAll_15 : decode cX0_bestOfAll 15 = .ok (.iload_n 2, 1) := by decide +kernel
theorem dX0_bestOfAll_16 : decode cX0_bestOfAll 16 = .ok (.sipush 203, 3) := by decide +kernel
theorem dX0_bestOfAll_19 : decode cX0_bestOfAll 19 = .ok (.if_icmp .ge 25, 3) := by decide +kernel
theorem dX0_bestOfAll_22 : decode cX0_bestOfAll 22 = .ok (.aload_n 0, 1) := by decide +kernel
theorem dX0_bestOfAll_23 : decode cX0_bestOfAll 23 = .ok (.invokevirtual 67, 3) := by decide +kernel
theorem dX0_bestOfAll_26 : decode cX0_bestOfAll 26 = .ok (.ifCond .eq 18, 3) := by decide +kernel
theorem dX0_bestOfAll_29 : decode cX0_bestOfAll 29 = .ok (.iload_n 1, 1) := by decide +kernel
theorem dX0_bestOfAll_30 : decode cX0_bestOfAll 30 = .ok (.aload_n 0, 1) := by decide +kernel
theorem dX0_bestOfAll_31 : decode cX0_bestOfAll 31 = .ok (.invokevirtual 63, 3) := by decide +kernel
theorem dX0_bestOfAll_34 : decode cX0_bestOfAll 34 = .ok (.invokestatic 55, 3) := by decide +kernel
theorem dX0_bestOfAll_37 : decode cX0_bestOfAll 37 = .ok (.istore_n 1, 1) := by decide +kernel
theorem dX0_bestOfAll_38 : decode cX0_bestOfAll 38 = .ok (.iinc 2 1, 3) := by decide +kernel
theorem dX0_bestOfAll_41 : decode cX0_bestOfAll 41 = .ok (.goto (-26), 3) := by decide +kernel
theorem dX0_bestOfAll_44 : decode cX0_bestOfAll 44 = .ok (.iload_n 1, 1) := by decide +kernel
theorem dX0_bestOfAll_45 : decode cX0_bestOfAll 45 = .ok (.ireturn, 1) := by decide +kernel
theorem dX0_worthOfGrouping_0 : decode cX0_worthOfGrouping 0 = .ok (.iconst 0, 1) := by decide +kernel
theorem dX0_worthOfGrouping_1 : decode cX0_worthOfGrouping 1 = .ok (.istore_n 1, 1) := by decide +kernel
theorem dX0_worthOfGrouping_2 : decode cX0_worthOfGrouping 2 = .ok (.iconst 0, 1) := by decide +kernel
theorem dX0_worthOfGrouping_3 : decode cX0_worthOfGrouping 3 = .ok (.istore_n 2, 1) := by decide +kernel
theorem dX0_worthOfGrouping_4 : decode cX0_worthOfGrouping 4 = .ok (.iload_n 2, 1) := by decide +kernel
theorem dX0_worthOfGrouping_5 : decode cX0_worthOfGrouping 5 = .ok (.aload_n 0, 1) := by decide +kernel
theorem dX0_worthOfGrouping_6 : decode cX0_worthOfGrouping 6 = .ok (.getfield 32, 3) := by decide +kernel
theorem dX0_worthOfGrouping_9 : decode cX0_worthOfGrouping 9 = .ok (.if_icmp .ge 90, 3) := by decide +kernel
theorem dX0_worthOfGrouping_12 : decode cX0_worthOfGrouping 12 = .ok (.iload_n 2, 1) := by decide +kernel
theorem dX0_worthOfGrouping_13 : decode cX0_worthOfGrouping 13 = .ok (.iconst 1, 1) := by decide +kernel
theorem dX0_worthOfGrouping_14 : decode cX0_worthOfGrouping 14 = .ok (.iadd, 1) := by decide +kernel
theorem dX0_worthOfGrouping_15 : decode cX0_worthOfGrouping 15 = .ok (.istore_n 3, 1) := by decide +kernel
theorem dX0_worthOfGrouping_16 : decode cX0_worthOfGrouping 16 = .ok (.iload_n 3, 1) := by decide +kernel
theorem dX0_worthOfGrouping_17 : decode cX0_worthOfGrouping 17 = .ok (.aload_n 0, 1) := by decide +kernel
theorem dX0_worthOfGrouping_18 : decode cX0_worthOfGrouping 18 = .ok (.getfield 32, 3) := by decide +kernel
theorem dX0_worthOfGrouping_21 : decode cX0_worthOfGrouping 21 = .ok (.if_icmp .ge 72, 3) := by decide +kernel
theorem dX0_worthOfGrouping_24 : decode cX0_worthOfGrouping 24 = .ok (.aload_n 0, 1) := by decide +kernel
theorem dX0_worthOfGrouping_25 : decode cX0_worthOfGrouping 25 = .ok (.getfield 29, 3) := by decide +kernel
theorem dX0_worthOfGrouping_28 : decode cX0_worthOfGrouping 28 = .ok (.iload_n 2, 1) := by decide +kernel
theorem dX0_worthOfGrouping_29 : decode cX0_worthOfGrouping 29 = .ok (.invokevirtual 40, 3) := by decide +kernel
theorem dX0_worthOfGrouping_32 : decode cX0_worthOfGrouping 32 = .ok (.aload_n 0, 1) := by decide +kernel
theorem dX0_worthOfGrouping_33 : decode cX0_worthOfGrouping 33 = .ok (.getfield 29, 3) := by decide +kernel
theorem dX0_worthOfGrouping_36 : decode cX0_worthOfGrouping 36 = .ok (.iload_n 3, 1) := by decide +kernel
theorem dX0_worthOfGrouping_37 : decode cX0_worthOfGrouping 37 = .ok (.invokevirtual 40, 3) := by decide +kernel
theorem dX0_worthOfGrouping_40 : decode cX0_worthOfGrouping 40 = .ok (.if_icmp .ne 7, 3) := by decide +kernel
theorem dX0_worthOfGrouping_43 : decode cX0_worthOfGrouping 43 = .ok (.iconst 1, 1) := by decide +kernel
theorem dX0_worthOfGrouping_44 : decode cX0_worthOfGrouping 44 = .ok (.goto 4, 3) := by decide +kernel
theorem dX0_worthOfGrouping_47 : decode cX0_worthOfGrouping 47 = .ok (.iconst 0, 1) := by decide +kernel
theorem dX0_worthOfGrouping_48 : decode cX0_worthOfGrouping 48 = .ok (.istore 4, 2) := by decide +kernel
theorem dX0_worthOfGrouping_50 : decode cX0_worthOfGrouping 50 = .ok (.iload 4, 2) := by decide +kernel
theorem dX0_worthOfGrouping_52 : decode cX0_worthOfGrouping 52 = .ok (.ifCond .eq 17, 3) := by decide +kernel
theorem dX0_worthOfGrouping_55 : decode cX0_worthOfGrouping 55 = .ok (.aload_n 0, 1) := by decide +kernel
theorem dX0_worthOfGrouping_56 : decode cX0_worthOfGrouping 56 = .ok (.iload_n 2, 1) := by decide +kernel
theorem dX0_worthOfGrouping_57 : decode cX0_worthOfGrouping 57 = .ok (.iload_n 3, 1) := by decide +kernel
theorem dX0_worthOfGrouping_58 : decode cX0_worthOfGrouping 58 = .ok (.invokevirtual 50, 3) := by decide +kernel
theorem dX0_worthOfGrouping_61 : decode cX0_worthOfGrouping 61 = .ok (.ldc 54, 2) := by decide +kernel
theorem dX0_worthOfGrouping_63 : decode cX0_worthOfGrouping 63 = .ok (.if_icmp .ne 6, 3) := by decide +kernel
theorem dX0_worthOfGrouping_66 : decode cX0_worthOfGrouping 66 = .ok (.ldc 54, 2) := by decide +kernel
theorem dX0_worthOfGrouping_68 : decode cX0_worthOfGrouping 68 = .ok (.ireturn, 1) := by decide +kernel
theorem dX0_worthOfGrouping_69 : decode cX0_worthOfGrouping 69 = .ok (.iload_n 1, 1) := by decide +kernel
theorem dX0_worthOfGrouping_70 : decode cX0_worthOfGrouping 70 = .ok (.iload 4, 2) := by decide +kernel
theorem dX0_worthOfGrouping_72 : decode cX0_worthOfGrouping 72 = .ok (.ifCond .eq 12, 3) := by decide +kernel
theorem dX0_worthOfGrouping_75 : decode cX0_worthOfGrouping 75 = .ok (.aload_n 0, 1) := by decide +kernel
theorem dX0_worthOfGrouping_76 : decode cX0_worthOfGrouping 76 = .ok (.iload_n 2, 1) := by decide +kernel
theorem dX0_worthOfGrouping_77 : decode cX0_worthOfGrouping 77 = .ok (.iload_n 3, 1) := by decide +kernel
theorem dX0_worthOfGrouping_78 : decode cX0_worthOfGrouping 78 = .ok (.invokevirtual 50, 3) := by decide +kernel
theorem dX0_worthOfGrouping_81 : decode cX0_worthOfGrouping 81 = .ok (.goto 4, 3) := by decide +kernel
theorem dX0_worthOfGrouping_84 : decode cX0_worthOfGrouping 84 = .ok (.iconst 0, 1) := by decide +kernel
theorem dX0_worthOfGrouping_85 : decode cX0_worthOfGrouping 85 = .ok (.iadd, 1) := by decide +kernel
theorem dX0_worthOfGrouping_86 : decode cX0_worthOfGrouping 86 = .ok (.istore_n 1, 1) := by decide +kernel
theorem dX0_worthOfGrouping_87 : decode cX0_worthOfGrouping 87 = .ok (.iinc 3 1, 3) := by decide +kernel
theorem dX0_worthOfGrouping_90 : decode cX0_worthOfGrouping 90 = .ok (.goto (-74), 3) := by decide +kernel
theorem dX0_worthOfGrouping_93 : decode cX0_worthOfGrouping 93 = .ok (.iinc 2 1, 3) := by decide +kernel
theorem dX0_worthOfGrouping_96 : decode cX0_worthOfGrouping 96 = .ok (.goto (-92), 3) := by decide +kernel
theorem dX0_worthOfGrouping_99 : decode cX0_worthOfGrouping 99 = .ok (.iload_n 1, 1) := by decide +kernel
theorem dX0_worthOfGrouping_100 : decode cX0_worthOfGrouping 100 = .ok (.ireturn, 1) := by decide +kernel
theorem dX0_goOnToNext_0 : decode cX0_goOnToNext 0 = .ok (.aload_n 0, 1) := by decide +kernel
theorem dX0_goOnToNext_1 : decode cX0_goOnToNext 1 = .ok (.getfield 32, 3) := by decide +kernel
theorem dX0_goOnToNext_4 : decode cX0_goOnToNext 4 = .ok (.iconst 1, 1) := by decide +kernel
theorem dX0_goOnToNext_5 : decode cX0_goOnToNext 5 = .ok (.isub, 1) := by decide +kernel
theorem dX0_goOnToNext_6 : decode cX0_goOnToNext 6 = .ok (.istore_n 1, 1) := by decide +kernel
theorem dX0_goOnToNext_7 : decode cX0_goOnToNext 7 = .ok (.iload_n 1, 1) := by decide +kernel
theorem dX0_goOnToNext_8 : decode cX0_goOnToNext 8 = .ok (.ifCond .le 54, 3) := by decide +kernel
theorem dX0_goOnToNext_11 : decode cX0_goOnToNext 11 = .ok (.aload_n 0, 1) := by decide +kernel
theorem dX0_goOnToNext_12 : decode cX0_goOnToNext 12 = .ok (.getfield 29, 3) := by decide +kernel
theorem dX0_goOnToNext_15 : decode cX0_goOnToNext 15 = .ok (.iload_n 1, 1) := by decide +kernel
theorem dX0_goOnToNext_16 : decode cX0_goOnToNext 16 = .ok (.invokevirtual 40, 3) := by decide +kernel
theorem dX0_goOnToNext_19 : decode cX0_goOnToNext 19 = .ok (.aload_n 0, 1) := by decide +kernel
theorem dX0_goOnToNext_20 : decode cX0_goOnToNext 20 = .ok (.iload_n 1, 1) := by decide +kernel
theorem dX0_goOnToNext_21 : decode cX0_goOnToNext 21 = .ok (.invokevirtual 71, 3) := by decide +kernel
theorem dX0_goOnToNext_24 : decode cX0_goOnToNext 24 = .ok (.if_icmp .gt 23, 3) := by decide +kernel
theorem dX0_goOnToNext_27 : decode cX0_goOnToNext 27 = .ok (.aload_n 0, 1) := by decide +kernel
theorem dX0_goOnToNext_28 : decode cX0_goOnToNext 28 = .ok (.getfield 29, 3) := by decide +kernel
theorem dX0_goOnToNext_31 : decode cX0_goOnToNext 31 = .ok (.iload_n 1, 1) := by decide +kernel
theorem dX0_goOnToNext_32 : decode cX0_goOnToNext 32 = .ok (.aload_n 0, 1) := by decide +kernel
theorem dX0_goOnToNext_33 : decode cX0_goOnToNext 33 = .ok (.getfield 29, 3) := by decide +kernel
theorem dX0_goOnToNext_36 : decode cX0_goOnToNext 36 = .ok (.iload_n 1, 1) := by decide +kernel
theorem dX0_goOnToNext_37 : decode cX0_goOnToNext 37 = .ok (.invokevirtual 40, 3) := by decide +kernel
theorem dX0_goOnToNext_40 : decode cX0_goOnToNext 40 = .ok (.iconst 1, 1) := by decide +kernel
theorem dX0_goOnToNext_41 : decode cX0_goOnToNext 41 = .ok (.iadd, 1) := by decide +kernel
theorem dX0_goOnToNext_42 : decode cX0_goOnToNext 42 = .ok (.invokevirtual 36, 3) := by decide +kernel
theorem dX0_goOnToNext_45 : decode cX0_goOnToNext 45 = .ok (.iconst 1, 1) := by decide +kernel
theorem dX0_goOnToNext_46 : decode cX0_goOnToNext 46 = .ok (.ireturn, 1) := by decide +kernel
theorem dX0_goOnToNext_47 : decode cX0_goOnToNext 47 = .ok (.aload_n 0, 1) := by decide +kernel
theorem dX0_goOnToNext_48 : decode cX0_goOnToNext 48 = .ok (.getfield 29, 3) := by decide +kernel
theorem dX0_goOnToNext_51 : decode cX0_goOnToNext 51 = .ok (.iload_n 1, 1) := by decide +kernel
theorem dX0_goOnToNext_52 : decode cX0_goOnToNext 52 = .ok (.iconst 0, 1) := by decide +kernel
theorem dX0_goOnToNext_53 : decode cX0_goOnToNext 53 = .ok (.invokevirtual 36, 3) := by decide +kernel
theorem dX0_goOnToNext_56 : decode cX0_goOnToNext 56 = .ok (.iinc 1 (-1), 3) := by decide +kernel
theorem dX0_goOnToNext_59 : decode cX0_goOnToNext 59 = .ok (.goto (-52), 3) := by decide +kernel
theorem dX0_goOnToNext_62 : decode cX0_goOnToNext 62 = .ok (.iconst 0, 1) := by decide +kernel
theorem dX0_goOnToNext_63 : decode cX0_goOnToNext 63 = .ok (.ireturn, 1) := by decide +kernel
theorem dX0_greatestGroupBefore_0 : decode cX0_greatestGroupBefore 0 = .ok (.iconst 0, 1) := by decide +kernel
theorem dX0_greatestGroupBefore_1 : decode cX0_greatestGroupBefore 1 = .ok (.istore_n 2, 1) := by decide +kernel
theorem dX0_greatestGroupBefore_2 : decode cX0_greatestGroupBefore 2 = .ok (.iconst 0, 1) := by decide +kernel
theorem dX0_greatestGroupBefore_3 : decode cX0_greatestGroupBefore 3 = .ok (.istore_n 3, 1) := by decide +kernel
theorem dX0_greatestGroupBefore_4 : decode cX0_greatestGroupBefore 4 = .ok (.iload_n 3, 1) := by decide +kernel
theorem dX0_greatestGroupBefore_5 : decode cX0_greatestGroupBefore 5 = .ok (.iload_n 1, 1) := by decide +kernel
theorem dX0_greatestGroupBefore_6 : decode cX0_greatestGroupBefore 6 = .ok (.if_icmp .ge 22, 3) := by decide +kernel
theorem dX0_greatestGroupBefore_9 : decode cX0_greatestGroupBefore 9 = .ok (.iload_n 2, 1) := by decide +kernel
theorem dX0_greatestGroupBefore_10 : decode cX0_greatestGroupBefore 10 = .ok (.aload_n 0, 1) := by decide +kernel
theorem dX0_greatestGroupBefore_11 : decode cX0_greatestGroupBefore 11 = .ok (.getfield 29, 3) := by decide +kernel
theorem dX0_greatestGroupBefore_14 : decode cX0_greatestGroupBefore 14 = .ok (.iload_n 3, 1) := by decide +kernel
theorem dX0_greatestGroupBefore_15 : decode cX0_greatestGroupBefore 15 = .ok (.invokevirtual 40, 3) := by decide +kernel
theorem dX0_greatestGroupBefore_18 : decode cX0_greatestGroupBefore 18 = .ok (.invokestatic 55, 3) := by decide +kernel
theorem dX0_greatestGroupBefore_21 : decode cX0_greatestGroupBefore 21 = .ok (.istore_n 2, 1) := by decide +kernel
theorem dX0_greatestGroupBefore_22 : decode cX0_greatestGroupBefore 22 = .ok (.iinc 3 1, 3) := by decide +kernel
theorem dX0_greatestGroupBefore_25 : decode cX0_greatestGroupBefore 25 = .ok (.goto (-21), 3) := by decide +kernel
theorem dX0_greatestGroupBefore_28 : decode cX0_greatestGroupBefore 28 = .ok (.iload_n 2, 1) := by decide +kernel
theorem dX0_greatestGroupBefore_29 : decode cX0_greatestGroupBefore 29 = .ok (.ireturn, 1) := by decide +kernel
theorem dX1_init_0 : decode cX1_init 0 = .ok (.aload_n 0, 1) := by decide +kernel
theorem dX1_init_1 : decode cX1_init 1 = .ok (.invokespecial 1, 3) := by decide +kernel
theorem dX1_init_4 : decode cX1_init 4 = .ok (.aload_n 0, 1) := by decide +kernel
theorem dX1_init_5 : decode cX1_init 5 = .ok (.new 7, 3) := by decide +kernel
theorem dX1_init_8 : decode cX1_init 8 = .ok (.dup, 1) := by decide +kernel
theorem dX1_init_9 : decode cX1_init 9 = .ok (.iload_n 1, 1) := by decide +kernel
theorem dX1_init_10 : decode cX1_init 10 = .ok (.invokespecial 9, 3) := by decide +kernel
theorem dX1_init_13 : decode cX1_init 13 = .ok (.putfield 12, 3) := by decide +kernel
theorem dX1_init_16 : decode cX1_init 16 = .ok (.return_, 1) := by decide +kernel
theorem dX1_has_0 : decode cX1_has 0 = .ok (.aload_n 0, 1) := by decide +kernel
theorem dX1_has_1 : decode cX1_has 1 = .ok (.getfield 12, 3) := by decide +kernel
theorem dX1_has_4 : decode cX1_has 4 = .ok (.iload_n 1, 1) := by decide +kernel
theorem dX1_has_5 : decode cX1_has 5 = .ok (.invokevirtual 18, 3) := by decide +kernel
theorem dX1_has_8 : decode cX1_has 8 = .ok (.iload_n 2, 1) := by decide +kernel
theorem dX1_has_9 : decode cX1_has 9 = .ok (.ishr, 1) := by decide +kernel
theorem dX1_has_10 : decode cX1_has 10 = .ok (.iconst 1, 1) := by decide +kernel
theorem dX1_has_11 : decode cX1_has 11 = .ok (.iand, 1) := by decide +kernel
theorem dX1_has_12 : decode cX1_has 12 = .ok (.ifCond .eq 7, 3) := by decide +kernel
theorem dX1_has_15 : decode cX1_has 15 = .ok (.iconst 1, 1) := by decide +kernel
theorem dX1_has_16 : decode cX1_has 16 = .ok (.goto 4, 3) := by decide +kernel
theorem dX1_has_19 : decode cX1_has 19 = .ok (.iconst 0, 1) := by decide +kernel
theorem dX1_has_20 : decode cX1_has 20 = .ok (.ireturn, 1) := by decide +kernel
theorem dX1_tell_0 : decode cX1_tell 0 = .ok (.aload_n 0, 1) := by decide +kernel
theorem dX1_tell_1 : decode cX1_tell 1 = .ok (.iload_n 1, 1) := by decide +kernel
theorem dX1_tell_2 : decode cX1_tell 2 = .ok (.iload_n 2, 1) := by decide +kernel
theorem dX1_tell_3 : decode cX1_tell 3 = .ok (.invokevirtual 22, 3) := by decide +kernel
theorem dX1_tell_6 : decode cX1_tell 6 = .ok (.istore 4, 2) := by decide +kernel
theorem dX1_tell_8 : decode cX1_tell 8 = .ok (.aload_n 0, 1) := by decide +kernel
theorem dX1_tell_9 : decode cX1_tell 9 = .ok (.iload_n 1, 1) := by decide +kernel
theorem dX1_tell_10 : decode cX1_tell 10 = .ok (.iload_n 2, 1) := by decide +kernel
theorem dX1_tell_11 : decode cX1_tell 11 = .ok (.iload_n 3, 1) := by decide +kernel
theorem dX1_tell_12 : decode cX1_tell 12 = .ok (.invokevirtual 26, 3) := by decide +kernel
theorem dX1_tell_15 : decode cX1_tell 15 = .ok (.aload_n 0, 1) := by decide +kernel
theorem dX1_tell_16 : decode cX1_tell 16 = .ok (.iload_n 2, 1) := by decide +kernel
theorem dX1_tell_17 : decode cX1_tell 17 = .ok (.iload_n 1, 1) := by decide +kernel
theorem dX1_tell_18 : decode cX1_tell 18 = .ok (.iload_n 3, 1) := by decide +kernel
theorem dX1_tell_19 : decode cX1_tell 19 = .ok (.invokevirtual 26, 3) := by decide +kernel
theorem dX1_tell_22 : decode cX1_tell 22 = .ok (.iload 4, 2) := by decide +kernel
theorem dX1_tell_24 : decode cX1_tell 24 = .ok (.ireturn, 1) := by decide +kernel
theorem dX1_mark_0 : decode cX1_mark 0 = .ok (.iconst 1, 1) := by decide +kernel
theorem dX1_mark_1 : decode cX1_mark 1 = .ok (.iload_n 2, 1) := by decide +kernel
theorem dX1_mark_2 : decode cX1_mark 2 = .ok (.ishl, 1) := by decide +kernel
theorem dX1_mark_3 : decode cX1_mark 3 = .ok (.istore 4, 2) := by decide +kernel
theorem dX1_mark_5 : decode cX1_mark 5 = .ok (.aload_n 0, 1) := by decide +kernel
theorem dX1_mark_6 : decode cX1_mark 6 = .ok (.getfield 12, 3) := by decide +kernel
theorem dX1_mark_9 : decode cX1_mark 9 = .ok (.iload_n 1, 1) := by decide +kernel
theorem dX1_mark_10 : decode cX1_mark 10 = .ok (.iload_n 3, 1) := by decide +kernel
theorem dX1_mark_11 : decode cX1_mark 11 = .ok (.ifCond .eq 17, 3) := by decide +kernel
theorem dX1_mark_14 : decode cX1_mark 14 = .ok (.aload_n 0, 1) := by decide +kernel
theorem dX1_mark_15 : decode cX1_mark 15 = .ok (.getfield 12, 3) := by decide +kernel
theorem dX1_mark_18 : decode cX1_mark 18 = .ok (.iload_n 1, 1) := by decide +kernel
theorem dX1_mark_19 : decode cX1_mark 19 = .ok (.invokevirtual 18, 3) := by decide +kernel
theorem dX1_mark_22 : decode cX1_mark 22 = .ok (.iload 4, 2) := by decide +kernel
theorem dX1_mark_24 : decode cX1_mark 24 = .ok (.ior, 1) := by decide +kernel
theorem dX1_mark_25 : decode cX1_mark 25 = .ok (.goto 16, 3) := by decide +kernel
theorem dX1_mark_28 : decode cX1_mark 28 = .ok (.aload_n 0, 1) := by decide +kernel
theorem dX1_mark_29 : decode cX1_mark 29 = .ok (.getfield 12, 3) := by decide +kernel
theorem dX1_mark_32 : decode cX1_mark 32 = .ok (.iload_n 1, 1) := by decide +kernel
theorem dX1_mark_33 : decode cX1_mark 33 = .ok (.invokevirtual 18, 3) := by decide +kernel
theorem dX1_mark_36 : decode cX1_mark 36 = .ok (.iload 4, 2) := by decide +kernel
theorem dX1_mark_38 : decode cX1_mark 38 = .ok (.iconst (-1), 1) := by decide +kernel
theorem dX1_mark_39 : decode cX1_mark 39 = .ok (.ixor, 1) := by decide +kernel
theorem dX1_mark_40 : decode cX1_mark 40 = .ok (.iand, 1) := by decide +kernel
theorem dX1_mark_41 : decode cX1_mark 41 = .ok (.invokevirtual 30, 3) := by decide +kernel
theorem dX1_mark_44 : decode cX1_mark 44 = .ok (.return_, 1) := by decide +kernel
theorem dX2_init_0 : decode cX2_init 0 = .ok (.aload_n 0, 1) := by decide +kernel
theorem dX2_init_1 : decode cX2_init 1 = .ok (.invokespecial 3, 3) := by decide +kernel
theorem dX2_init_4 : decode cX2_init 4 = .ok (.aload_n 0, 1) := by decide +kernel
theorem dX2_init_5 : decode cX2_init 5 = .ok (.new 9, 3) := by decide +kernel
theorem dX2_init_8 : decode cX2_init 8 = .ok (.dup, 1) := by decide +kernel
theorem dX2_init_9 : decode cX2_init 9 = .ok (.bipush 16, 2) := by decide +kernel
theorem dX2_init_11 : decode cX2_init 11 = .ok (.invokespecial 11, 3) := by decide +kernel
theorem dX2_init_14 : decode cX2_init 14 = .ok (.putfield 14, 3) := by decide +kernel
theorem dX2_init_17 : decode cX2_init 17 = .ok (.aload_n 0, 1) := by decide +kernel
theorem dX2_init_18 : decode cX2_init 18 = .ok (.new 9, 3) := by decide +kernel
theorem dX2_init_21 : decode cX2_init 21 = .ok (.dup, 1) := by decide +kernel
theorem dX2_init_22 : decode cX2_init 22 = .ok (.bipush 40, 2) := by decide +kernel
theorem dX2_init_24 : decode cX2_init 24 = .ok (.invokespecial 11, 3) := by decide +kernel
theorem dX2_init_27 : decode cX2_init 27 = .ok (.putfield 20, 3) := by decide +kernel
theorem dX2_init_30 : decode cX2_init 30 = .ok (.return_, 1) := by decide +kernel
theorem dX2_made_0 : decode cX2_made 0 = .ok (.aload_n 0, 1) := by decide +kernel
theorem dX2_made_1 : decode cX2_made 1 = .ok (.getfield 23, 3) := by decide +kernel
theorem dX2_made_4 : decode cX2_made 4 = .ok (.ireturn, 1) := by decide +kernel
theorem dX2_ownerOf_0 : decode cX2_ownerOf 0 = .ok (.aload_n 0, 1) := by decide +kernel
theorem dX2_ownerOf_1 : decode cX2_ownerOf 1 = .ok (.getfield 14, 3) := by decide +kernel
theorem dX2_ownerOf_4 : decode cX2_ownerOf 4 = .ok (.iload_n 1, 1) := by decide +kernel
theorem dX2_ownerOf_5 : decode cX2_ownerOf 5 = .ok (.invokevirtual 27, 3) := by decide +kernel
theorem dX2_ownerOf_8 : decode cX2_ownerOf 8 = .ok (.ireturn, 1) := by decide +kernel
theorem dX2_leadOf_0 : decode cX2_leadOf 0 = .ok (.aload_n 0, 1) := by decide +kernel
theorem dX2_leadOf_1 : decode cX2_leadOf 1 = .ok (.getfield 20, 3) := by decide +kernel
theorem dX2_leadOf_4 : decode cX2_leadOf 4 = .ok (.iload_n 1, 1) := by decide +kernel
theorem dX2_leadOf_5 : decode cX2_leadOf 5 = .ok (.invokevirtual 27, 3) := by decide +kernel
theorem dX2_leadOf_8 : decode cX2_leadOf 8 = .ok (.ireturn, 1) := by decide +kernel
theorem dX2_moveToNew_0 : decode cX2_moveToNew 0 = .ok (.aload_n 0, 1) := by decide +kernel
theorem dX2_moveToNew_1 : decode cX2_moveToNew 1 = .ok (.getfield 23, 3) := by decide +kernel
theorem dX2_moveToNew_4 : decode cX2_moveToNew 4 = .ok (.istore_n 2, 1) := by decide +kernel
theorem dX2_moveToNew_5 : decode cX2_moveToNew 5 = .ok (.aload_n 0, 1) := by decide +kernel
theorem dX2_moveToNew_6 : decode cX2_moveToNew 6 = .ok (.getfield 20, 3) := by decide +kernel
theorem dX2_moveToNew_9 : decode cX2_moveToNew 9 = .ok (.iload_n 2, 1) := by decide +kernel
theorem dX2_moveToNew_10 : decode cX2_moveToNew 10 = .ok (.iload_n 2, 1) := by decide +kernel
theorem dX2_moveToNew_11 : decode cX2_moveToNew 11 = .ok (.invokevirtual 31, 3) := by decide +kernel
theorem dX2_moveToNew_14 : decode cX2_moveToNew 14 = .ok (.aload_n 0, 1) := by decide +kernel
theorem dX2_moveToNew_15 : decode cX2_moveToNew 15 = .ok (.getfield 14, 3) := by decide +kernel
theorem dX2_moveToNew_18 : decode cX2_moveToNew 18 = .ok (.iload_n 1, 1) := by decide +kernel
theorem dX2_moveToNew_19 : decode cX2_moveToNew 19 = .ok (.iload_n 2, 1) := by decide +kernel
theorem dX2_moveToNew_20 : decode cX2_moveToNew 20 = .ok (.invokevirtual 31, 3) := by decide +kernel
theorem dX2_moveToNew_23 : decode cX2_moveToNew 23 = .ok (.aload_n 0, 1) := by decide +kernel
theorem dX2_moveToNew_24 : decode cX2_moveToNew 24 = .ok (.dup, 1) := by decide +kernel
theorem dX2_moveToNew_25 : decode cX2_moveToNew 25 = .ok (.getfield 23, 3) := by decide +kernel
theorem dX2_moveToNew_28 : decode cX2_moveToNew 28 = .ok (.iconst 1, 1) := by decide +kernel
theorem dX2_moveToNew_29 : decode cX2_moveToNew 29 = .ok (.iadd, 1) := by decide +kernel
theorem dX2_moveToNew_30 : decode cX2_moveToNew 30 = .ok (.putfield 23, 3) := by decide +kernel
theorem dX2_moveToNew_33 : decode cX2_moveToNew 33 = .ok (.iload_n 2, 1) := by decide +kernel
theorem dX2_moveToNew_34 : decode cX2_moveToNew 34 = .ok (.ireturn, 1) := by decide +kernel
theorem dX2_unite_0 : decode cX2_unite 0 = .ok (.iload_n 1, 1) := by decide +kernel
theorem dX2_unite_1 : decode cX2_unite 1 = .ok (.iload_n 2, 1) := by decide +kernel
theorem dX2_unite_2 : decode cX2_unite 2 = .ok (.invokestatic 35, 3) := by decide +kernel
theorem dX2_unite_5 : decode cX2_unite 5 = .ok (.istore_n 3, 1) := by decide +kernel
theorem dX2_unite_6 : decode cX2_unite 6 = .ok (.iload_n 1, 1) := by decide +kernel
theorem dX2_unite_7 : decode cX2_unite 7 = .ok (.iload_n 2, 1) := by decide +kernel
theorem dX2_unite_8 : decode cX2_unite 8 = .ok (.invokestatic 41, 3) := by decide +kernel
theorem dX2_unite_11 : decode cX2_unite 11 = .ok (.istore 4, 2) := by decide +kernel
theorem dX2_unite_13 : decode cX2_unite 13 = .ok (.iconst 0, 1) := by decide +kernel
theorem dX2_unite_14 : decode cX2_unite 14 = .ok (.istore 5, 2) := by decide +kernel
theorem dX2_unite_16 : decode cX2_unite 16 = .ok (.iload 5, 2) := by decide +kernel
theorem dX2_unite_18 : decode cX2_unite 18 = .ok (.aload_n 0, 1) := by decide +kernel
theorem dX2_unite_19 : decode cX2_unite 19 = .ok (.getfield 23, 3) := by decide +kernel
theorem dX2_unite_22 : decode cX2_unite 22 = .ok (.if_icmp .ge 33, 3) := by decide +kernel
theorem dX2_unite_25 : decode cX2_unite 25 = .ok (.aload_n 0, 1) := by decide +kernel
theorem dX2_unite_26 : decode cX2_unite 26 = .ok (.getfield 20, 3) := by decide +kernel
theorem dX2_unite_29 : decode cX2_unite 29 = .ok (.iload 5, 2) := by decide +kernel
theorem dX2_unite_31 : decode cX2_unite 31 = .ok (.invokevirtual 27, 3) := by decide +kernel
theorem dX2_unite_34 : decode cX2_unite 34 = .ok (.iload 4, 2) := by decide +kernel
theorem dX2_unite_36 : decode cX2_unite 36 = .ok (.if_icmp .ne 13, 3) := by decide +kernel
theorem dX2_unite_39 : decode cX2_unite 39 = .ok (.aload_n 0, 1) := by decide +kernel
theorem dX2_unite_40 : decode cX2_unite 40 = .ok (.getfield 20, 3) := by decide +kernel
theorem dX2_unite_43 : decode cX2_unite 43 = .ok (.iload 5, 2) := by decide +kernel
theorem dX2_unite_45 : decode cX2_unite 45 = .ok (.iload_n 3, 1) := by decide +kernel
theorem dX2_unite_46 : decode cX2_unite 46 = .ok (.invokevirtual 31, 3) := by decide +kernel
theorem dX2_unite_49 : decode cX2_unite 49 = .ok (.iinc 5 1, 3) := by decide +kernel
theorem dX2_unite_52 : decode cX2_unite 52 = .ok (.goto (-36), 3) := by decide +kernel
theorem dX2_unite_55 : decode cX2_unite 55 = .ok (.iconst 0, 1) := by decide +kernel
theorem dX2_unite_56 : decode cX2_unite 56 = .ok (.istore 5, 2) := by decide +kernel
theorem dX2_unite_58 : decode cX2_unite 58 = .ok (.iload 5, 2) := by decide +kernel
theorem dX2_unite_60 : decode cX2_unite 60 = .ok (.bipush 16, 2) := by decide +kernel
theorem dX2_unite_62 : decode cX2_unite 62 = .ok (.if_icmp .ge 33, 3) := by decide +kernel
theorem dX2_unite_65 : decode cX2_unite 65 = .ok (.aload_n 0, 1) := by decide +kernel
theorem dX2_unite_66 : decode cX2_unite 66 = .ok (.getfield 14, 3) := by decide +kernel
theorem dX2_unite_69 : decode cX2_unite 69 = .ok (.iload 5, 2) := by decide +kernel
theorem dX2_unite_71 : decode cX2_unite 71 = .ok (.invokevirtual 27, 3) := by decide +kernel
theorem dX2_unite_74 : decode cX2_unite 74 = .ok (.iload 4, 2) := by decide +kernel
theorem dX2_unite_76 : decode cX2_unite 76 = .ok (.if_icmp .ne 13, 3) := by decide +kernel
theorem dX2_unite_79 : decode cX2_unite 79 = .ok (.aload_n 0, 1) := by decide +kernel
theorem dX2_unite_80 : decode cX2_unite 80 = .ok (.getfield 14, 3) := by decide +kernel
theorem dX2_unite_83 : decode cX2_unite 83 = .ok (.iload 5, 2) := by decide +kernel
theorem dX2_unite_85 : decode cX2_unite 85 = .ok (.iload_n 3, 1) := by decide +kernel
theorem dX2_unite_86 : decode cX2_unite 86 = .ok (.invokevirtual 31, 3) := by decide +kernel
theorem dX2_unite_89 : decode cX2_unite 89 = .ok (.iinc 5 1, 3) := by decide +kernel
theorem dX2_unite_92 : decode cX2_unite 92 = .ok (.goto (-34), 3) := by decide +kernel
theorem dX2_unite_95 : decode cX2_unite 95 = .ok (.iload_n 3, 1) := by decide +kernel
theorem dX2_unite_96 : decode cX2_unite 96 = .ok (.ireturn, 1) := by decide +kernel
theorem dX3_init_0 : decode cX3_init 0 = .ok (.aload_n 0, 1) := by decide +kernel
theorem dX3_init_1 : decode cX3_init 1 = .ok (.invokespecial 1, 3) := by decide +kernel
theorem dX3_init_4 : decode cX3_init 4 = .ok (.aload_n 0, 1) := by decide +kernel
theorem dX3_init_5 : decode cX3_init 5 = .ok (.iload_n 1, 1) := by decide +kernel
theorem dX3_init_6 : decode cX3_init 6 = .ok (.iconst 0, 1) := by decide +kernel
theorem dX3_init_7 : decode cX3_init 7 = .ok (.invokestatic 7, 3) := by decide +kernel
theorem dX3_init_10 : decode cX3_init 10 = .ok (.newarray .int, 2) := by decide +kernel
theorem dX3_init_12 : decode cX3_init 12 = .ok (.putfield 13, 3) := by decide +kernel
theorem dX3_init_15 : decode cX3_init 15 = .ok (.return_, 1) := by decide +kernel
theorem dX3_at_0 : decode cX3_at 0 = .ok (.iload_n 1, 1) := by decide +kernel
theorem dX3_at_1 : decode cX3_at 1 = .ok (.ifCond .lt 21, 3) := by decide +kernel
theorem dX3_at_4 : decode cX3_at 4 = .ok (.iload_n 1, 1) := by decide +kernel
theorem dX3_at_5 : decode cX3_at 5 = .ok (.aload_n 0, 1) := by decide +kernel
theorem dX3_at_6 : decode cX3_at 6 = .ok (.getfield 13, 3) := by decide +kernel
theorem dX3_at_9 : decode cX3_at 9 = .ok (.arraylength, 1) := by decide +kernel
theorem dX3_at_10 : decode cX3_at 10 = .ok (.if_icmp .ge 12, 3) := by decide +kernel
theorem dX3_at_13 : decode cX3_at 13 = .ok (.aload_n 0, 1) := by decide +kernel
theorem dX3_at_14 : decode cX3_at 14 = .ok (.getfield 13, 3) := by decide +kernel
theorem dX3_at_17 : decode cX3_at 17 = .ok (.iload_n 1, 1) := by decide +kernel
theorem dX3_at_18 : decode cX3_at 18 = .ok (.iaload, 1) := by decide +kernel
theorem dX3_at_19 : decode cX3_at 19 = .ok (.goto 4, 3) := by decide +kernel
theorem dX3_at_22 : decode cX3_at 22 = .ok (.iconst 0, 1) := by decide +kernel
theorem dX3_at_23 : decode cX3_at 23 = .ok (.ireturn, 1) := by decide +kernel
theorem dX3_put_0 : decode cX3_put 0 = .ok (.iload_n 1, 1) := by decide +kernel
theorem dX3_put_1 : decode cX3_put 1 = .ok (.ifCond .lt 19, 3) := by decide +kernel
theorem dX3_put_4 : decode cX3_put 4 = .ok (.iload_n 1, 1) := by decide +kernel
theorem dX3_put_5 : decode cX3_put 5 = .ok (.aload_n 0, 1) := by decide +kernel
theorem dX3_put_6 : decode cX3_put 6 = .ok (.getfield 13, 3) := by decide +kernel
theorem dX3_put_9 : decode cX3_put 9 = .ok (.arraylength, 1) := by decide +kernel
theorem dX3_put_10 : decode cX3_put 10 = .ok (.if_icmp .ge 10, 3) := by decide +kernel
theorem dX3_put_13 : decode cX3_put 13 = .ok (.aload_n 0, 1) := by decide +kernel
theorem dX3_put_14 : decode cX3_put 14 = .ok (.getfield 13, 3) := by decide +kernel
theorem dX3_put_17 : decode cX3_put 17 = .ok (.iload_n 1, 1) := by decide +kernel
theorem dX3_put_18 : decode cX3_put 18 = .ok (.iload_n 2, 1) := by decide +kernel
theorem dX3_put_19 : decode cX3_put 19 = .ok (.iastore, 1) := by decide +kernel
theorem dX3_put_20 : decode cX3_put 20 = .ok (.return_, 1) := by decide +kernel
theorem dX3_fill_0 : decode cX3_fill 0 = .ok (.iconst 0, 1) := by decide +kernel
theorem dX3_fill_1 : decode cX3_fill 1 = .ok (.istore_n 2, 1) := by decide +kernel
theorem dX3_fill_2 : decode cX3_fill 2 = .ok (.iload_n 2, 1) := by decide +kernel
theorem dX3_fill_3 : decode cX3_fill 3 = .ok (.aload_n 0, 1) := by decide +kernel
theorem dX3_fill_4 : decode cX3_fill 4 = .ok (.getfield 13, 3) := by decide +kernel
theorem dX3_fill_7 : decode cX3_fill 7 = .ok (.arraylength, 1) := by decide +kernel
theorem dX3_fill_8 : decode cX3_fill 8 = .ok (.if_icmp .ge 16, 3) := by decide +kernel
theorem dX3_fill_11 : decode cX3_fill 11 = .ok (.aload_n 0, 1) := by decide +kernel
theorem dX3_fill_12 : decode cX3_fill 12 = .ok (.getfield 13, 3) := by decide +kernel
theorem dX3_fill_15 : decode cX3_fill 15 = .ok (.iload_n 2, 1) := by decide +kernel
theorem dX3_fill_16 : decode cX3_fill 16 = .ok (.iload_n 1, 1) := by decide +kernel
theorem dX3_fill_17 : decode cX3_fill 17 = .ok (.iastore, 1) := by decide +kernel
theorem dX3_fill_18 : decode cX3_fill 18 = .ok (.iinc 2 1, 3) := by decide +kernel
theorem dX3_fill_21 : decode cX3_fill 21 = .ok (.goto (-19), 3) := by decide +kernel
theorem dX3_fill_24 : decode cX3_fill 24 = .ok (.return_, 1) := by decide +kernel
theorem dX3_copyFrom_0 : decode cX3_copyFrom 0 = .ok (.iconst 0, 1) := by decide +kernel
theorem dX3_copyFrom_1 : decode cX3_copyFrom 1 = .ok (.istore_n 2, 1) := by decide +kernel
theorem dX3_copyFrom_2 : decode cX3_copyFrom 2 = .ok (.iload_n 2, 1) := by decide +kernel
theorem dX3_copyFrom_3 : decode cX3_copyFrom 3 = .ok (.aload_n 0, 1) := by decide +kernel
theorem dX3_copyFrom_4 : decode cX3_copyFrom 4 = .ok (.getfield 13, 3) := by decide +kernel
theorem dX3_copyFrom_7 : decode cX3_copyFrom 7 = .ok (.arraylength, 1) := by decide +kernel
theorem dX3_copyFrom_8 : decode cX3_copyFrom 8 = .ok (.if_icmp .ge 20, 3) := by decide +kernel
theorem dX3_copyFrom_11 : decode cX3_copyFrom 11 = .ok (.aload_n 0, 1) := by decide +kernel
theorem dX3_copyFrom_12 : decode cX3_copyFrom 12 = .ok (.getfield 13, 3) := by decide +kernel
theorem dX3_copyFrom_15 : decode cX3_copyFrom 15 = .ok (.iload_n 2, 1) := by decide +kernel
theorem dX3_copyFrom_16 : decode cX3_copyFrom 16 = .ok (.aload_n 1, 1) := by decide +kernel
theorem dX3_copyFrom_17 : decode cX3_copyFrom 17 = .ok (.iload_n 2, 1) := by decide +kernel
theorem dX3_copyFrom_18 : decode cX3_copyFrom 18 = .ok (.invokevirtual 19, 3) := by decide +kernel
theorem dX3_copyFrom_21 : decode cX3_copyFrom 21 = .ok (.iastore, 1) := by decide +kernel
theorem dX3_copyFrom_22 : decode cX3_copyFrom 22 = .ok (.iinc 2 1, 3) := by decide +kernel
theorem dX3_copyFrom_25 : decode cX3_copyFrom 25 = .ok (.goto (-23), 3) := by decide +kernel
theorem dX3_copyFrom_28 : decode cX3_copyFrom 28 = .ok (.return_, 1) := by decide +kernel
theorem dX4_init_0 : decode cX4_init 0 = .ok (.aload_n 0, 1) := by decide +kernel
theorem dX4_init_1 : decode cX4_init 1 = .ok (.invokespecial 3, 3) := by decide +kernel
theorem dX4_init_4 : decode cX4_init 4 = .ok (.aload_n 0, 1) := by decide +kernel
theorem dX4_init_5 : decode cX4_init 5 = .ok (.new 9, 3) := by decide +kernel
theorem dX4_init_8 : decode cX4_init 8 = .ok (.dup, 1) := by decide +kernel
theorem dX4_init_9 : decode cX4_init 9 = .ok (.bipush 16, 2) := by decide +kernel
theorem dX4_init_11 : decode cX4_init 11 = .ok (.invokespecial 11, 3) := by decide +kernel
theorem dX4_init_14 : decode cX4_init 14 = .ok (.putfield 14, 3) := by decide +kernel
theorem dX4_init_17 : decode cX4_init 17 = .ok (.aload_n 0, 1) := by decide +kernel
theorem dX4_init_18 : decode cX4_init 18 = .ok (.new 9, 3) := by decide +kernel
theorem dX4_init_21 : decode cX4_init 21 = .ok (.dup, 1) := by decide +kernel
theorem dX4_init_22 : decode cX4_init 22 = .ok (.bipush 16, 2) := by decide +kernel
theorem dX4_init_24 : decode cX4_init 24 = .ok (.invokespecial 11, 3) := by decide +kernel
theorem dX4_init_27 : decode cX4_init 27 = .ok (.putfield 20, 3) := by decide +kernel
theorem dX4_init_30 : decode cX4_init 30 = .ok (.aload_n 0, 1) := by decide +kernel
theorem dX4_init_31 : decode cX4_init 31 = .ok (.new 9, 3) := by decide +kernel
theorem dX4_init_34 : decode cX4_init 34 = .ok (.dup, 1) := by decide +kernel
theorem dX4_init_35 : decode cX4_init 35 = .ok (.bipush 40, 2) := by decide +kernel
theorem dX4_init_37 : decode cX4_init 37 = .ok (.invokespecial 11, 3) := by decide +kernel
theorem dX4_init_40 : decode cX4_init 40 = .ok (.putfield 23, 3) := by decide +kernel
theorem dX4_init_43 : decode cX4_init 43 = .ok (.aload_n 0, 1) := by decide +kernel
theorem dX4_init_44 : decode cX4_init 44 = .ok (.new 9, 3) := by decide +kernel
theorem dX4_init_47 : decode cX4_init 47 = .ok (.dup, 1) := by decide +kernel
theorem dX4_init_48 : decode cX4_init 48 = .ok (.bipush 40, 2) := by decide +kernel
theorem dX4_init_50 : decode cX4_init 50 = .ok (.invokespecial 11, 3) := by decide +kernel
theorem dX4_init_53 : decode cX4_init 53 = .ok (.putfield 26, 3) := by decide +kernel
theorem dX4_init_56 : decode cX4_init 56 = .ok (.aload_n 0, 1) := by decide +kernel
theorem dX4_init_57 : decode cX4_init 57 = .ok (.new 9, 3) := by decide +kernel
theorem dX4_init_60 : decode cX4_init 60 = .ok (.dup, 1) := by decide +kernel
theorem dX4_init_61 : decode cX4_init 61 = .ok (.bipush 40, 2) := by decide +kernel
theorem dX4_init_63 : decode cX4_init 63 = .ok (.invokespecial 11, 3) := by decide +kernel
theorem dX4_init_66 : decode cX4_init 66 = .ok (.putfield 29, 3) := by decide +kernel
theorem dX4_init_69 : decode cX4_init 69 = .ok (.aload_n 0, 1) := by decide +kernel
theorem dX4_init_70 : decode cX4_init 70 = .ok (.new 9, 3) := by decide +kernel
theorem dX4_init_73 : decode cX4_init 73 = .ok (.dup, 1) := by decide +kernel
theorem dX4_init_74 : decode cX4_init 74 = .ok (.bipush 16, 2) := by decide +kernel
theorem dX4_init_76 : decode cX4_init 76 = .ok (.invokespecial 11, 3) := by decide +kernel
theorem dX4_init_79 : decode cX4_init 79 = .ok (.putfield 32, 3) := by decide +kernel
theorem dX4_init_82 : decode cX4_init 82 = .ok (.aload_n 0, 1) := by decide +kernel
theorem dX4_init_83 : decode cX4_init 83 = .ok (.new 9, 3) := by decide +kernel
theorem dX4_init_86 : decode cX4_init 86 = .ok (.dup, 1) := by decide +kernel
theorem dX4_init_87 : decode cX4_init 87 = .ok (.bipush 16, 2) := by decide +kernel
theorem dX4_init_89 : decode cX4_init 89 = .ok (.invokespecial 11, 3) := by decide +kernel
theorem dX4_init_92 : decode cX4_init 92 = .ok (.putfield 35, 3) := by decide +kernel
theorem dX4_init_95 : decode cX4_init 95 = .ok (.aload_n 0, 1) := by decide +kernel
theorem dX4_init_96 : decode cX4_init 96 = .ok (.new 9, 3) := by decide +kernel
theorem dX4_init_99 : decode cX4_init 99 = .ok (.dup, 1) := by decide +kernel
theorem dX4_init_100 : decode cX4_init 100 = .ok (.bipush 16, 2) := by decide +kernel
theorem dX4_init_102 : decode cX4_init 102 = .ok (.invokespecial 11, 3) := by decide +kernel
theorem dX4_init_105 : decode cX4_init 105 = .ok (.putfield 38, 3) := by decide +kernel
theorem dX4_init_108 : decode cX4_init 108 = .ok (.aload_n 0, 1) := by decide +kernel
theorem dX4_init_109 : decode cX4_init 109 = .ok (.new 9, 3) := by decide +kernel
theorem dX4_init_112 : decode cX4_init 112 = .ok (.dup, 1) := by decide +kernel
theorem dX4_init_113 : decode cX4_init 113 = .ok (.bipush 16, 2) := by decide +kernel
theorem dX4_init_115 : decode cX4_init 115 = .ok (.invokespecial 11, 3) := by decide +kernel
theorem dX4_init_118 : decode cX4_init 118 = .ok (.putfield 41, 3) := by decide +kernel
theorem dX4_init_121 : decode cX4_init 121 = .ok (.aload_n 0, 1) := by decide +kernel
theorem dX4_init_122 : decode cX4_init 122 = .ok (.new 9, 3) := by decide +kernel
theorem dX4_init_125 : decode cX4_init 125 = .ok (.dup, 1) := by decide +kernel
theorem dX4_init_126 : decode cX4_init 126 = .ok (.sipush 256, 3) := by decide +kernel
theorem dX4_init_129 : decode cX4_init 129 = .ok (.invokespecial 11, 3) := by decide +kernel
theorem dX4_init_132 : decode cX4_init 132 = .ok (.putfield 44, 3) := by decide +kernel
theorem dX4_init_135 : decode cX4_init 135 = .ok (.aload_n 0, 1) := by decide +kernel
theorem dX4_init_136 : decode cX4_init 136 = .ok (.getfield 20, 3) := by decide +kernel
theorem dX4_init_139 : decode cX4_init 139 = .ok (.sipush 999, 3) := by decide +kernel
theorem dX4_init_142 : decode cX4_init 142 = .ok (.invokevirtual 47, 3) := by decide +kernel
theorem dX4_init_145 : decode cX4_init 145 = .ok (.aload_n 0, 1) := by decide +kernel
theorem dX4_init_146 : decode cX4_init 146 = .ok (.getfield 35, 3) := by decide +kernel
theorem dX4_init_149 : decode cX4_init 149 = .ok (.sipush 999, 3) := by decide +kernel
theorem dX4_init_152 : decode cX4_init 152 = .ok (.invokevirtual 47, 3) := by decide +kernel
theorem dX4_init_155 : decode cX4_init 155 = .ok (.return_, 1) := by decide +kernel
theorem dX4_isFullyTold_0 : decode cX4_isFullyTold 0 = .ok (.aload_n 0, 1) := by decide +kernel
theorem dX4_isFullyTold_1 : decode cX4_isFullyTold 1 = .ok (.getfield 50, 3) := by decide +kernel
theorem dX4_isFullyTold_4 : decode cX4_isFullyTold 4 = .ok (.bipush 40, 2) := by decide +kernel
theorem dX4_isFullyTold_6 : decode cX4_isFullyTold 6 = .ok (.if_icmp .lt 7, 3) := by decide +kernel
theorem dX4_isFullyTold_9 : decode cX4_isFullyTold 9 = .ok (.iconst 1, 1) := by decide +kernel
theorem dX4_isFullyTold_10 : decode cX4_isFullyTold 10 = .ok (.goto 4, 3) := by decide +kernel
theorem dX4_isFullyTold_13 : decode cX4_isFullyTold 13 = .ok (.iconst 0, 1) := by decide +kernel
theorem dX4_isFullyTold_14 : decode cX4_isFullyTold 14 = .ok (.ireturn, 1) := by decide +kernel
theorem dX4_firstOf_0 : decode cX4_firstOf 0 = .ok (.aload_n 0, 1) := by decide +kernel
theorem dX4_firstOf_1 : decode cX4_firstOf 1 = .ok (.getfield 32, 3) := by decide +kernel
theorem dX4_firstOf_4 : decode cX4_firstOf 4 = .ok (.iload_n 1, 1) := by decide +kernel
theorem dX4_firstOf_5 : decode cX4_firstOf 5 = .ok (.invokevirtual 54, 3) := by decide +kernel
theorem dX4_firstOf_8 : decode cX4_firstOf 8 = .ok (.ireturn, 1) := by decide +kernel
theorem dX4_lastOf_0 : decode cX4_lastOf 0 = .ok (.aload_n 0, 1) := by decide +kernel
theorem dX4_lastOf_1 : decode cX4_lastOf 1 = .ok (.getfield 35, 3) := by decide +kernel
theorem dX4_lastOf_4 : decode cX4_lastOf 4 = .ok (.iload_n 1, 1) := by decide +kernel
theorem dX4_lastOf_5 : decode cX4_lastOf 5 = .ok (.invokevirtual 54, 3) := by decide +kernel
theorem dX4_lastOf_8 : decode cX4_lastOf 8 = .ok (.ireturn, 1) := by decide +kernel
theorem dX4_isCertain_0 : decode cX4_isCertain 0 = .ok (.aload_n 0, 1) := by decide +kernel
theorem dX4_isCertain_1 : decode cX4_isCertain 1 = .ok (.getfield 32, 3) := by decide +kernel
theorem dX4_isCertain_4 : decode cX4_isCertain 4 = .ok (.iload_n 1, 1) := by decide +kernel
theorem dX4_isCertain_5 : decode cX4_isCertain 5 = .ok (.invokevirtual 54, 3) := by decide +kernel
theorem dX4_isCertain_8 : decode cX4_isCertain 8 = .ok (.aload_n 0, 1) := by decide +kernel
theorem dX4_isCertain_9 : decode cX4_isCertain 9 = .ok (.getfield 35, 3) := by decide +kernel
theorem dX4_isCertain_12 : decode cX4_isCertain 12 = .ok (.iload_n 1, 1) := by decide +kernel
theorem dX4_isCertain_13 : decode cX4_isCertain 13 = .ok (.invokevirtual 54, 3) := by decide +kernel
theorem dX4_isCertain_16 : decode cX4_isCertain 16 = .ok (.if_icmp .ne 7, 3) := by decide +kernel
theorem dX4_isCertain_19 : decode cX4_isCertain 19 = .ok (.iconst 1, 1) := by decide +kernel
theorem dX4_isCertain_20 : decode cX4_isCertain 20 = .ok (.goto 4, 3) := by decide +kernel
theorem dX4_isCertain_23 : decode cX4_isCertain 23 = .ok (.iconst 0, 1) := by decide +kernel
theorem dX4_isCertain_24 : decode cX4_isCertain 24 = .ok (.ireturn, 1) := by decide +kernel
theorem dX4_tellAhead_0 : decode cX4_tellAhead 0 = .ok (.aload_n 0, 1) := by decide +kernel
theorem dX4_tellAhead_1 : decode cX4_tellAhead 1 = .ok (.getfield 23, 3) := by decide +kernel
theorem dX4_tellAhead_4 : decode cX4_tellAhead 4 = .ok (.aload_n 0, 1) := by decide +kernel
theorem dX4_tellAhead_5 : decode cX4_tellAhead 5 = .ok (.getfield 50, 3) := by decide +kernel
theorem dX4_tellAhead_8 : decode cX4_tellAhead 8 = .ok (.iload_n 1, 1) := by decide +kernel
theorem dX4_tellAhead_9 : decode cX4_tellAhead 9 = .ok (.invokevirtual 58, 3) := by decide +kernel
theorem dX4_tellAhead_12 : decode cX4_tellAhead 12 = .ok (.aload_n 0, 1) := by decide +kernel
theorem dX4_tellAhead_13 : decode cX4_tellAhead 13 = .ok (.getfield 26, 3) := by decide +kernel
theorem dX4_tellAhead_16 : decode cX4_tellAhead 16 = .ok (.aload_n 0, 1) := by decide +kernel
theorem dX4_tellAhead_17 : decode cX4_tellAhead 17 = .ok (.getfield 50, 3) := by decide +kernel
theorem dX4_tellAhead_20 : decode cX4_tellAhead 20 = .ok (.iload_n 2, 1) := by decide +kernel
theorem dX4_tellAhead_21 : decode cX4_tellAhead 21 = .ok (.invokevirtual 58, 3) := by decide +kernel
theorem dX4_tellAhead_24 : decode cX4_tellAhead 24 = .ok (.aload_n 0, 1) := by decide +kernel
theorem dX4_tellAhead_25 : decode cX4_tellAhead 25 = .ok (.getfield 29, 3) := by decide +kernel
theorem dX4_tellAhead_28 : decode cX4_tellAhead 28 = .ok (.aload_n 0, 1) := by decide +kernel
theorem dX4_tellAhead_29 : decode cX4_tellAhead 29 = .ok (.getfield 50, 3) := by decide +kernel
theorem dX4_tellAhead_32 : decode cX4_tellAhead 32 = .ok (.iload_n 3, 1) := by decide +kernel
theorem dX4_tellAhead_33 : decode cX4_tellAhead 33 = .ok (.invokevirtual 58, 3) := by decide +kernel
theorem dX4_tellAhead_36 : decode cX4_tellAhead 36 = .ok (.aload_n 0, 1) := by decide +kernel
theorem dX4_tellAhead_37 : decode cX4_tellAhead 37 = .ok (.dup, 1) := by decide +kernel
theorem dX4_tellAhead_38 : decode cX4_tellAhead 38 = .ok (.getfield 50, 3) := by decide +kernel
theorem dX4_tellAhead_41 : decode cX4_tellAhead 41 = .ok (.iconst 1, 1) := by decide +kernel
theorem dX4_tellAhead_42 : decode cX4_tellAhead 42 = .ok (.iadd, 1) := by decide +kernel
theorem dX4_tellAhead_43 : decode cX4_tellAhead 43 = .ok (.putfield 50, 3) := by decide +kernel
theorem dX4_tellAhead_46 : decode cX4_tellAhead 46 = .ok (.aload_n 0, 1) := by decide +kernel
theorem dX4_tellAhead_47 : decode cX4_tellAhead 47 = .ok (.invokevirtual 62, 3) := by decide +kernel
theorem dX4_tellAhead_50 : decode cX4_tellAhead 50 = .ok (.istore 4, 2) := by decide +kernel
theorem dX4_tellAhead_52 : decode cX4_tellAhead 52 = .ok (.iload 4, 2) := by decide +kernel
theorem dX4_tellAhead_54 : decode cX4_tellAhead 54 = .ok (.iconst (-1), 1) := by decide +kernel
theorem dX4_tellAhead_55 : decode cX4_tellAhead 55 = .ok (.if_icmp .ne 16, 3) := by decide +kernel
theorem dX4_tellAhead_58 : decode cX4_tellAhead 58 = .ok (.aload_n 0, 1) := by decide +kernel
theorem dX4_tellAhead_59 : decode cX4_tellAhead 59 = .ok (.dup, 1) := by decide +kernel
theorem dX4_tellAhead_60 : decode cX4_tellAhead 60 = .ok (.getfield 50, 3) := by decide +kernel
theorem dX4_tellAhead_63 : decode cX4_tellAhead 63 = .ok (.iconst 1, 1) := by decide +kernel
theorem dX4_tellAhead_64 : decode cX4_tellAhead 64 = .ok (.isub, 1) := by decide +kernel
theorem dX4_tellAhead_65 : decode cX4_tellAhead 65 = .ok (.putfield 50, 3) := by decide +kernel
theorem dX4_tellAhead_68 : decode cX4_tellAhead 68 = .ok (.goto 7, 3) := by decide +kernel
theorem dX4_tellAhead_71 : decode cX4_tellAhead 71 = .ok (.aload_n 0, 1) := by decide +kernel
theorem dX4_tellAhead_72 : decode cX4_tellAhead 72 = .ok (.invokevirtual 66, 3) := by decide +kernel
theorem dX4_tellAhead_75 : decode cX4_tellAhead 75 = .ok (.iload 4, 2) := by decide +kernel
theorem dX4_tellAhead_77 : decode cX4_tellAhead 77 = .ok (.ireturn, 1) := by decide +kernel
theorem dX4_narrow_0 : decode cX4_narrow 0 = .ok (.aload_n 0, 1) := by decide +kernel
theorem dX4_narrow_1 : decode cX4_narrow 1 = .ok (.iload_n 1, 1) := by decide +kernel
theorem dX4_narrow_2 : decode cX4_narrow 2 = .ok (.iload_n 2, 1) := by decide +kernel
theorem dX4_narrow_3 : decode cX4_narrow 3 = .ok (.iload_n 3, 1) := by decide +kernel
theorem dX4_narrow_4 : decode cX4_narrow 4 = .ok (.invokevirtual 69, 3) := by decide +kernel
theorem dX4_narrow_7 : decode cX4_narrow 7 = .ok (.istore 4, 2) := by decide +kernel
theorem dX4_narrow_9 : decode cX4_narrow 9 = .ok (.iload 4, 2) := by decide +kernel
theorem dX4_narrow_11 : decode cX4_narrow 11 = .ok (.iconst (-1), 1) := by decide +kernel
theorem dX4_narrow_12 : decode cX4_narrow 12 = .ok (.if_icmp .eq 47, 3) := by decide +kernel
theorem dX4_narrow_15 : decode cX4_narrow 15 = .ok (.aload_n 0, 1) := by decide +kernel
theorem dX4_narrow_16 : decode cX4_narrow 16 = .ok (.getfield 14, 3) := by decide +kernel
theorem dX4_narrow_19 : decode cX4_narrow 19 = .ok (.iload_n 1, 1) := by decide +kernel
theorem dX4_narrow_20 : decode cX4_narrow 20 = .ok (.aload_n 0, 1) := by decide +kernel
theorem dX4_narrow_21 : decode cX4_narrow 21 = .ok (.getfield 14, 3) := by decide +kernel
theorem dX4_narrow_24 : decode cX4_narrow 24 = .ok (.iload_n 1, 1) := by decide +kernel
theorem dX4_narrow_25 : decode cX4_narrow 25 = .ok (.invokevirtual 54, 3) := by decide +kernel
theorem dX4_narrow_28 : decode cX4_narrow 28 = .ok (.iload_n 2, 1) := by decide +kernel
theorem dX4_narrow_29 : decode cX4_narrow 29 = .ok (.invokestatic 73, 3) := by decide +kernel
theorem dX4_narrow_32 : decode cX4_narrow 32 = .ok (.invokevirtual 58, 3) := by decide +kernel
theorem dX4_narrow_35 : decode cX4_narrow 35 = .ok (.aload_n 0, 1) := by decide +kernel
theorem dX4_narrow_36 : decode cX4_narrow 36 = .ok (.getfield 20, 3) := by decide +kernel
theorem dX4_narrow_39 : decode cX4_narrow 39 = .ok (.iload_n 1, 1) := by decide +kernel
theorem dX4_narrow_40 : decode cX4_narrow 40 = .ok (.aload_n 0, 1) := by decide +kernel
theorem dX4_narrow_41 : decode cX4_narrow 41 = .ok (.getfield 20, 3) := by decide +kernel
theorem dX4_narrow_44 : decode cX4_narrow 44 = .ok (.iload_n 1, 1) := by decide +kernel
theorem dX4_narrow_45 : decode cX4_narrow 45 = .ok (.invokevirtual 54, 3) := by decide +kernel
theorem dX4_narrow_48 : decode cX4_narrow 48 = .ok (.iload_n 3, 1) := by decide +kernel
theorem dX4_narrow_49 : decode cX4_narrow 49 = .ok (.invokestatic 79, 3) := by decide +kernel
theorem dX4_narrow_52 : decode cX4_narrow 52 = .ok (.invokevirtual 58, 3) := by decide +kernel
theorem dX4_narrow_55 : decode cX4_narrow 55 = .ok (.aload_n 0, 1) := by decide +kernel
theorem dX4_narrow_56 : decode cX4_narrow 56 = .ok (.invokevirtual 66, 3) := by decide +kernel
theorem dX4_narrow_59 : decode cX4_narrow 59 = .ok (.iload 4, 2) := by decide +kernel
theorem dX4_narrow_61 : decode cX4_narrow 61 = .ok (.ireturn, 1) := by decide +kernel
theorem dX4_tryNarrow_0 : decode cX4_tryNarrow 0 = .ok (.aload_n 0, 1) := by decide +kernel
theorem dX4_tryNarrow_1 : decode cX4_tryNarrow 1 = .ok (.getfield 14, 3) := by decide +kernel
theorem dX4_tryNarrow_4 : decode cX4_tryNarrow 4 = .ok (.iload_n 1, 1) := by decide +kernel
theorem dX4_tryNarrow_5 : decode cX4_tryNarrow 5 = .ok (.invokevirtual 54, 3) := by decide +kernel
theorem dX4_tryNarrow_8 : decode cX4_tryNarrow 8 = .ok (.istore 4, 2) := by decide +kernel
theorem dX4_tryNarrow_10 : decode cX4_tryNarrow 10 = .ok (.aload_n 0, 1) := by decide +kernel
theorem dX4_tryNarrow_11 : decode cX4_tryNarrow 11 = .ok (.getfield 20, 3) := by decide +kernel
theorem dX4_tryNarrow_14 : decode cX4_tryNarrow 14 = .ok (.iload_n 1, 1) := by decide +kernel
theorem dX4_tryNarrow_15 : decode cX4_tryNarrow 15 = .ok (.invokevirtual 54, 3) := by decide +kernel
theorem dX4_tryNarrow_18 : decode cX4_tryNarrow 18 = .ok (.istore 5, 2) := by decide +kernel
theorem dX4_tryNarrow_20 : decode cX4_tryNarrow 20 = .ok (.aload_n 0, 1) := by decide +kernel
theorem dX4_tryNarrow_21 : decode cX4_tryNarrow 21 = .ok (.getfield 14, 3) := by decide +kernel
theorem dX4_tryNarrow_24 : decode cX4_tryNarrow 24 = .ok (.iload_n 1, 1) := by decide +kernel
theorem dX4_tryNarrow_25 : decode cX4_tryNarrow 25 = .ok (.iload 4, 2) := by decide +kernel
theorem dX4_tryNarrow_27 : decode cX4_tryNarrow 27 = .ok (.iload_n 2, 1) := by decide +kernel
theorem dX4_tryNarrow_28 : decode cX4_tryNarrow 28 = .ok (.invokestatic 73, 3) := by decide +kernel
theorem dX4_tryNarrow_31 : decode cX4_tryNarrow 31 = .ok (.invokevirtual 58, 3) := by decide +kernel
theorem dX4_tryNarrow_34 : decode cX4_tryNarrow 34 = .ok (.aload_n 0, 1) := by decide +kernel
theorem dX4_tryNarrow_35 : decode cX4_tryNarrow 35 = .ok (.getfield 20, 3) := by decide +kernel
theorem dX4_tryNarrow_38 : decode cX4_tryNarrow 38 = .ok (.iload_n 1, 1) := by decide +kernel
theorem dX4_tryNarrow_39 : decode cX4_tryNarrow 39 = .ok (.iload 5, 2) := by decide +kernel
theorem dX4_tryNarrow_41 : decode cX4_tryNarrow 41 = .ok (.iload_n 3, 1) := by decide +kernel
theorem dX4_tryNarrow_42 : decode cX4_tryNarrow 42 = .ok (.invokestatic 79, 3) := by decide +kernel
theorem dX4_tryNarrow_45 : decode cX4_tryNarrow 45 = .ok (.invokevirtual 58, 3) := by decide +kernel
theorem dX4_tryNarrow_48 : decode cX4_tryNarrow 48 = .ok (.aload_n 0, 1) := by decide +kernel
theorem dX4_tryNarrow_49 : decode cX4_tryNarrow 49 = .ok (.invokevirtual 62, 3) := by decide +kernel
theorem dX4_tryNarrow_52 : decode cX4_tryNarrow 52 = .ok (.istore 6, 2) := by decide +kernel
theorem dX4_tryNarrow_54 : decode cX4_tryNarrow 54 = .ok (.aload_n 0, 1) := by decide +kernel
theorem dX4_tryNarrow_55 : decode cX4_tryNarrow 55 = .ok (.getfield 14, 3) := by decide +kernel
theorem dX4_tryNarrow_58 : decode cX4_tryNarrow 58 = .ok (.iload_n 1, 1) := by decide +kernel
theorem dX4_tryNarrow_59 : decode cX4_tryNarrow 59 = .ok (.iload 4, 2) := by decide +kernel
theorem dX4_tryNarrow_61 : decode cX4_tryNarrow 61 = .ok (.invokevirtual 58, 3) := by decide +kernel
theorem dX4_tryNarrow_64 : decode cX4_tryNarrow 64 = .ok (.aload_n 0, 1) := by decide +kernel
theorem dX4_tryNarrow_65 : decode cX4_tryNarrow 65 = .ok (.getfield 20, 3) := by decide +kernel
theorem dX4_tryNarrow_68 : decode cX4_tryNarrow 68 = .ok (.iload_n 1, 1) := by decide +kernel
theorem dX4_tryNarrow_69 : decode cX4_tryNarrow 69 = .ok (.iload 5, 2) := by decide +kernel
theorem dX4_tryNarrow_71 : decode cX4_tryNarrow 71 = .ok (.invokevirtual 58, 3) := by decide +kernel
theorem dX4_tryNarrow_74 : decode cX4_tryNarrow 74 = .ok (.iload 6, 2) := by decide +kernel
theorem dX4_tryNarrow_76 : decode cX4_tryNarrow 76 = .ok (.ireturn, 1) := by decide +kernel
theorem dX4_tryDating_0 : decode cX4_tryDating 0 = .ok (.aload_n 0, 1) := by decide +kernel
theorem dX4_tryDating_1 : decode cX4_tryDating 1 = .ok (.getfield 38, 3) := by decide +kernel
theorem dX4_tryDating_4 : decode cX4_tryDating 4 = .ok (.aload_n 0, 1) := by decide +kernel
theorem dX4_tryDating_5 : decode cX4_tryDating 5 = .ok (.getfield 14, 3) := by decide +kernel
theorem dX4_tryDating_8 : decode cX4_tryDating 8 = .ok (.invokevirtual 82, 3) := by decide +kernel
theorem dX4_tryDating_11 : decode cX4_tryDating 11 = .ok (.aload_n 0, 1) := by decide +kernel
theorem dX4_tryDating_12 : decode cX4_tryDating 12 = .ok (.getfield 41, 3) := by decide +kernel
theorem dX4_tryDating_15 : decode cX4_tryDating 15 = .ok (.aload_n 0, 1) := by decide +kernel
theorem dX4_tryDating_16 : decode cX4_tryDating 16 = .ok (.getfield 20, 3) := by decide +kernel
theorem dX4_tryDating_19 : decode cX4_tryDating 19 = .ok (.invokevirtual 82, 3) := by decide +kernel
theorem dX4_tryDating_22 : decode cX4_tryDating 22 = .ok (.aload_n 0, 1) := by decide +kernel
theorem dX4_tryDating_23 : decode cX4_tryDating 23 = .ok (.invokevirtual 86, 3) := by decide +kernel
theorem dX4_tryDating_26 : decode cX4_tryDating 26 = .ok (.ifCond .eq 17, 3) := by decide +kernel
theorem dX4_tryDating_29 : decode cX4_tryDating 29 = .ok (.aload_n 0, 1) := by decide +kernel
theorem dX4_tryDating_30 : decode cX4_tryDating 30 = .ok (.invokevirtual 90, 3) := by decide +kernel
theorem dX4_tryDating_33 : decode cX4_tryDating 33 = .ok (.ifCond .eq 10, 3) := by decide +kernel
theorem dX4_tryDating_36 : decode cX4_tryDating 36 = .ok (.aload_n 0, 1) := by decide +kernel
theorem dX4_tryDating_37 : decode cX4_tryDating 37 = .ok (.invokevirtual 93, 3) := by decide +kernel
theorem dX4_tryDating_40 : decode cX4_tryDating 40 = .ok (.goto 4, 3) := by decide +kernel
theorem dX4_tryDating_43 : decode cX4_tryDating 43 = .ok (.iconst (-1), 1) := by decide +kernel
theorem dX4_tryDating_44 : decode cX4_tryDating 44 = .ok (.ireturn, 1) := by decide +kernel
theorem dX4_keepTried_0 : decode cX4_keepTried 0 = .ok (.aload_n 0, 1) := by decide +kernel
theorem dX4_keepTried_1 : decode cX4_keepTried 1 = .ok (.getfield 32, 3) := by decide +kernel
theorem dX4_keepTried_4 : decode cX4_keepTried 4 = .ok (.aload_n 0, 1) := by decide +kernel
theorem dX4_keepTried_5 : decode cX4_keepTried 5 = .ok (.getfield 38, 3) := by decide +kernel
theorem dX4_keepTried_8 : decode cX4_keepTried 8 = .ok (.invokevirtual 82, 3) := by decide +kernel
theorem dX4_keepTried_11 : decode cX4_keepTried 11 = .ok (.aload_n 0, 1) := by decide +kernel
theorem dX4_keepTried_12 : decode cX4_keepTried 12 = .ok (.getfield 35, 3) := by decide +kernel
theorem dX4_keepTried_15 : decode cX4_keepTried 15 = .ok (.aload_n 0, 1) := by decide +kernel
theorem dX4_keepTried_16 : decode cX4_keepTried 16 = .ok (.getfield 41, 3) := by decide +kernel
theorem dX4_keepTried_19 : decode cX4_keepTried 19 = .ok (.invokevirtual 82, 3) := by decide +kernel
theorem dX4_keepTried_22 : decode cX4_keepTried 22 = .ok (.return_, 1) := by decide +kernel
theorem dX4_comesToRest_0 : decode cX4_comesToRest 0 = .ok (.iconst 0, 1) := by decide +kernel
theorem dX4_comesToRest_1 : decode cX4_comesToRest 1 = .ok (.istore_n 1, 1) := by decide +kernel
theorem dX4_comesToRest_2 : decode cX4_comesToRest 2 = .ok (.iload_n 1, 1) := by decide +kernel
theorem dX4_comesToRest_3 : decode cX4_comesToRest 3 = .ok (.bipush 16, 2) := by decide +kernel
theorem dX4_comesToRest_5 : decode cX4_comesToRest 5 = .ok (.if_icmp .ge 18, 3) := by decide +kernel
theorem dX4_comesToRest_8 : decode cX4_comesToRest 8 = .ok (.aload_n 0, 1) := by decide +kernel
theorem dX4_comesToRest_9 : decode cX4_comesToRest 9 = .ok (.invokevirtual 96, 3) := by decide +kernel
theorem dX4_comesToRest_12 : decode cX4_comesToRest 12 = .ok (.ifCond .ne 5, 3) := by decide +kernel
theorem dX4_comesToRest_15 : decode cX4_comesToRest 15 = .ok (.iconst 1, 1) := by decide +kernel
theorem dX4_comesToRest_16 : decode cX4_comesToRest 16 = .ok (.ireturn, 1) := by decide +kernel
theorem dX4_comesToRest_17 : decode cX4_comesToRest 17 = .ok (.iinc 1 1, 3) := by decide +kernel
theorem dX4_comesToRest_20 : decode cX4_comesToRest 20 = .ok (.goto (-18), 3) := by decide +kernel
theorem dX4_comesToRest_23 : decode cX4_comesToRest 23 = .ok (.iconst 0, 1) := by decide +kernel
theorem dX4_comesToRest_24 : decode cX4_comesToRest 24 = .ok (.ireturn, 1) := by decide +kernel
theorem dX4_pushAll_0 : decode cX4_pushAll 0 = .ok (.iconst 0, 1) := by decide +kernel
theorem dX4_pushAll_1 : decode cX4_pushAll 1 = .ok (.istore_n 1, 1) := by decide +kernel
theorem dX4_pushAll_2 : decode cX4_pushAll 2 = .ok (.iconst 0, 1) := by decide +kernel
theorem dX4_pushAll_3 : decode cX4_pushAll 3 = .ok (.istore_n 2, 1) := by decide +kernel
theorem dX4_pushAll_4 : decode cX4_pushAll 4 = .ok (.iload_n 2, 1) := by decide +kernel
theorem dX4_pushAll_5 : decode cX4_pushAll 5 = .ok (.aload_n 0, 1) := by decide +kernel
theorem dX4_pushAll_6 : decode cX4_pushAll 6 = .ok (.getfield 50, 3) := by decide +kernel
theorem dX4_pushAll_9 : decode cX4_pushAll 9 = .ok (.if_icmp .ge 119, 3) := by decide +kernel
theorem dX4_pushAll_12 : decode cX4_pushAll 12 = .ok (.aload_n 0, 1) := by decide +kernel
theorem dX4_pushAll_13 : decode cX4_pushAll 13 = .ok (.getfield 23, 3) := by decide +kernel
theorem dX4_pushAll_16 : decode cX4_pushAll 16 = .ok (.iload_n 2, 1) := by decide +kernel
theorem dX4_pushAll_17 : decode cX4_pushAll 17 = .ok (.invokevirtual 54, 3) := by decide +kernel
theorem dX4_pushAll_20 : decode cX4_pushAll 20 = .ok (.istore_n 3, 1) := by decide +kernel
theorem dX4_pushAll_21 : decode cX4_pushAll 21 = .ok (.aload_n 0, 1) := by decide +kernel
theorem dX4_pushAll_22 : decode cX4_pushAll 22 = .ok (.getfield 26, 3) := by decide +kernel
theorem dX4_pushAll_25 : decode cX4_pushAll 25 = .ok (.iload_n 2, 1) := by decide +kernel
theorem dX4_pushAll_26 : decode cX4_pushAll 26 = .ok (.invokevirtual 54, 3) := by decide +kernel
theorem dX4_pushAll_29 : decode cX4_pushAll 29 = .ok (.istore 4, 2) := by decide +kernel
theorem dX4_pushAll_31 : decode cX4_pushAll 31 = .ok (.aload_n 0, 1) := by decide +kernel
theorem dX4_pushAll_32 : decode cX4_pushAll 32 = .ok (.getfield 38, 3) := by decide +kernel
theorem dX4_pushAll_35 : decode cX4_pushAll 35 = .ok (.iload_n 3, 1) := by decide +kernel
theorem dX4_pushAll_36 : decode cX4_pushAll 36 = .ok (.invokevirtual 54, 3) := by decide +kernel
theorem dX4_pushAll_39 : decode cX4_pushAll 39 = .ok (.aload_n 0, 1) := by decide +kernel
theorem dX4_pushAll_40 : decode cX4_pushAll 40 = .ok (.getfield 29, 3) := by decide +kernel
theorem dX4_pushAll_43 : decode cX4_pushAll 43 = .ok (.iload_n 2, 1) := by decide +kernel
theorem dX4_pushAll_44 : decode cX4_pushAll 44 = .ok (.invokevirtual 54, 3) := by decide +kernel
theorem dX4_pushAll_47 : decode cX4_pushAll 47 = .ok (.iadd, 1) := by decide +kernel
theorem dX4_pushAll_48 : decode cX4_pushAll 48 = .ok (.istore 5, 2) := by decide +kernel
theorem dX4_pushAll_50 : decode cX4_pushAll 50 = .ok (.aload_n 0, 1) := by decide +kernel
theorem dX4_pushAll_51 : decode cX4_pushAll 51 = .ok (.getfield 41, 3) := by decide +kernel
theorem dX4_pushAll_54 : decode cX4_pushAll 54 = .ok (.iload 4, 2) := by decide +kernel
theorem dX4_pushAll_56 : decode cX4_pushAll 56 = .ok (.invokevirtual 54, 3) := by decide +kernel
theorem dX4_pushAll_59 : decode cX4_pushAll 59 = .ok (.aload_n 0, 1) := by decide +kernel
theorem dX4_pushAll_60 : decode cX4_pushAll 60 = .ok (.getfield 29, 3) := by decide +kernel
theorem dX4_pushAll_63 : decode cX4_pushAll 63 = .ok (.iload_n 2, 1) := by decide +kernel
theorem dX4_pushAll_64 : decode cX4_pushAll 64 = .ok (.invokevirtual 54, 3) := by decide +kernel
theorem dX4_pushAll_67 : decode cX4_pushAll 67 = .ok (.isub, 1) := by decide +kernel
theorem dX4_pushAll_68 : decode cX4_pushAll 68 = .ok (.istore 6, 2) := by decide +kernel
theorem dX4_pushAll_70 : decode cX4_pushAll 70 = .ok (.iload 5, 2) := by decide +kernel
theorem dX4_pushAll_72 : decode cX4_pushAll 72 = .ok (.aload_n 0, 1) := by decide +kernel
theorem dX4_pushAll_73 : decode cX4_pushAll 73 = .ok (.getfield 38, 3) := by decide +kernel
theorem dX4_pushAll_76 : decode cX4_pushAll 76 = .ok (.iload 4, 2) := by decide +kernel
theorem dX4_pushAll_78 : decode cX4_pushAll 78 = .ok (.invokevirtual 54, 3) := by decide +kernel
theorem dX4_pushAll_81 : decode cX4_pushAll 81 = .ok (.if_icmp .le 16, 3) := by decide +kernel
theorem dX4_pushAll_84 : decode cX4_pushAll 84 = .ok (.aload_n 0, 1) := by decide +kernel
theorem dX4_pushAll_85 : decode cX4_pushAll 85 = .ok (.getfield 38, 3) := by decide +kernel
theorem dX4_pushAll_88 : decode cX4_pushAll 88 = .ok (.iload 4, 2) := by decide +kernel
theorem dX4_pushAll_90 : decode cX4_pushAll 90 = .ok (.iload 5, 2) := by decide +kernel
theorem dX4_pushAll_92 : decode cX4_pushAll 92 = .ok (.invokevirtual 58, 3) := by decide +kernel
theorem dX4_pushAll_95 : decode cX4_pushAll 95 = .ok (.iconst 1, 1) := by decide +kernel
theorem dX4_pushAll_96 : decode cX4_pushAll 96 = .ok (.istore_n 1, 1) := by decide +kernel
theorem dX4_pushAll_97 : decode cX4_pushAll 97 = .ok (.iload 6, 2) := by decide +kernel
theorem dX4_pushAll_99 : decode cX4_pushAll 99 = .ok (.aload_n 0, 1) := by decide +kernel
theorem dX4_pushAll_100 : decode cX4_pushAll 100 = .ok (.getfield 41, 3) := by decide +kernel
theorem dX4_pushAll_103 : decode cX4_pushAll 103 = .ok (.iload_n 3, 1) := by decide +kernel
theorem dX4_pushAll_104 : decode cX4_pushAll 104 = .ok (.invokevirtual 54, 3) := by decide +kernel
theorem dX4_pushAll_107 : decode cX4_pushAll 107 = .ok (.if_icmp .ge 15, 3) := by decide +kernel
theorem dX4_pushAll_110 : decode cX4_pushAll 110 = .ok (.aload_n 0, 1) := by decide +kernel
theorem dX4_pushAll_111 : decode cX4_pushAll 111 = .ok (.getfield 41, 3) := by decide +kernel
theorem dX4_pushAll_114 : decode cX4_pushAll 114 = .ok (.iload_n 3, 1) := by decide +kernel
theorem dX4_pushAll_115 : decode cX4_pushAll 115 = .ok (.iload 6, 2) := by decide +kernel
theorem dX4_pushAll_117 : decode cX4_pushAll 117 = .ok (.invokevirtual 58, 3) := by decide +kernel
theorem dX4_pushAll_120 : decode cX4_pushAll 120 = .ok (.iconst 1, 1) := by decide +kernel
theorem dX4_pushAll_121 : decode cX4_pushAll 121 = .ok (.istore_n 1, 1) := by decide +kernel
theorem dX4_pushAll_122 : decode cX4_pushAll 122 = .ok (.iinc 2 1, 3) := by decide +kernel
theorem dX4_pushAll_125 : decode cX4_pushAll 125 = .ok (.goto (-121), 3) := by decide +kernel
theorem dX4_pushAll_128 : decode cX4_pushAll 128 = .ok (.iload_n 1, 1) := by decide +kernel
theorem dX4_pushAll_129 : decode cX4_pushAll 129 = .ok (.ireturn, 1) := by decide +kernel
theorem dX4_leavesYears_0 : decode cX4_leavesYears 0 = .ok (.iconst 0, 1) := by decide +kernel
theorem dX4_leavesYears_1 : decode cX4_leavesYears 1 = .ok (.istore_n 1, 1) := by decide +kernel
theorem dX4_leavesYears_2 : decode cX4_leavesYears 2 = .ok (.iload_n 1, 1) := by decide +kernel
theorem dX4_leavesYears_3 : decode cX4_leavesYears 3 = .ok (.bipush 16, 2) := by decide +kernel
theorem dX4_leavesYears_5 : decode cX4_leavesYears 5 = .ok (.if_icmp .ge 30, 3) := by decide +kernel
theorem dX4_leavesYears_8 : decode cX4_leavesYears 8 = .ok (.aload_n 0, 1) := by decide +kernel
theorem dX4_leavesYears_9 : decode cX4_leavesYears 9 = .ok (.getfield 38, 3) := by decide +kernel
theorem dX4_leavesYears_12 : decode cX4_leavesYears 12 = .ok (.iload_n 1, 1) := by decide +kernel
theorem dX4_leavesYears_13 : decode cX4_leavesYears 13 = .ok (.invokevirtual 54, 3) := by decide +kernel
theorem dX4_leavesYears_16 : decode cX4_leavesYears 16 = .ok (.aload_n 0, 1) := by decide +kernel
theorem dX4_leavesYears_17 : decode cX4_leavesYears 17 = .ok (.getfield 41, 3) := by decide +kernel
theorem dX4_leavesYears_20 : decode cX4_leavesYears 20 = .ok (.iload_n 1, 1) := by decide +kernel
theorem dX4_leavesYears_21 : decode cX4_leavesYears 21 = .ok (.invokevirtual 54, 3) := by decide +kernel
theorem dX4_leavesYears_24 : decode cX4_leavesYears 24 = .ok (.if_icmp .le 5, 3) := by decide +kernel
theorem dX4_leavesYears_27 : decode cX4_leavesYears 27 = .ok (.iconst 0, 1) := by decide +kernel
theorem dX4_leavesYears_28 : decode cX4_leavesYears 28 = .ok (.ireturn, 1) := by decide +kernel
theorem dX4_leavesYears_29 : decode cX4_leavesYears 29 = .ok (.iinc 1 1, 3) := by decide +kernel
theorem dX4_leavesYears_32 : decode cX4_leavesYears 32 = .ok (.goto (-30), 3) := by decide +kernel
theorem dX4_leavesYears_35 : decode cX4_leavesYears 35 = .ok (.iconst 1, 1) := by decide +kernel
theorem dX4_leavesYears_36 : decode cX4_leavesYears 36 = .ok (.ireturn, 1) := by decide +kernel
theorem dX4_countMoved_0 : decode cX4_countMoved 0 = .ok (.iconst 0, 1) := by decide +kernel
theorem dX4_countMoved_1 : decode cX4_countMoved 1 = .ok (.istore_n 1, 1) := by decide +kernel
theorem dX4_countMoved_2 : decode cX4_countMoved 2 = .ok (.iconst 0, 1) := by decide +kernel
theorem dX4_countMoved_3 : decode cX4_countMoved 3 = .ok (.istore_n 2, 1) := by decide +kernel
theorem dX4_countMoved_4 : decode cX4_countMoved 4 = .ok (.iload_n 2, 1) := by decide +kernel
theorem dX4_countMoved_5 : decode cX4_countMoved 5 = .ok (.bipush 16, 2) := by decide +kernel
theorem dX4_countMoved_7 : decode cX4_countMoved 7 = .ok (.if_icmp .ge 50, 3) := by decide +kernel
theorem dX4_countMoved_10 : decode cX4_countMoved 10 = .ok (.aload_n 0, 1) := by decide +kernel
theorem dX4_countMoved_11 : decode cX4_countMoved 11 = .ok (.getfield 38, 3) := by decide +kernel
theorem dX4_countMoved_14 : decode cX4_countMoved 14 = .ok (.iload_n 2, 1) := by decide +kernel
theorem dX4_countMoved_15 : decode cX4_countMoved 15 = .ok (.invokevirtual 54, 3) := by decide +kernel
theorem dX4_countMoved_18 : decode cX4_countMoved 18 = .ok (.aload_n 0, 1) := by decide +kernel
theorem dX4_countMoved_19 : decode cX4_countMoved 19 = .ok (.getfield 32, 3) := by decide +kernel
theorem dX4_countMoved_22 : decode cX4_countMoved 22 = .ok (.iload_n 2, 1) := by decide +kernel
theorem dX4_countMoved_23 : decode cX4_countMoved 23 = .ok (.invokevirtual 54, 3) := by decide +kernel
theorem dX4_countMoved_26 : decode cX4_countMoved 26 = .ok (.if_icmp .ne 22, 3) := by decide +kernel
theorem dX4_countMoved_29 : decode cX4_countMoved 29 = .ok (.aload_n 0, 1) := by decide +kernel
theorem dX4_countMoved_30 : decode cX4_countMoved 30 = .ok (.getfield 41, 3) := by decide +kernel
theorem dX4_countMoved_33 : decode cX4_countMoved 33 = .ok (.iload_n 2, 1) := by decide +kernel
theorem dX4_countMoved_34 : decode cX4_countMoved 34 = .ok (.invokevirtual 54, 3) := by decide +kernel
theorem dX4_countMoved_37 : decode cX4_countMoved 37 = .ok (.aload_n 0, 1) := by decide +kernel
theorem dX4_countMoved_38 : decode cX4_countMoved 38 = .ok (.getfield 35, 3) := by decide +kernel
theorem dX4_countMoved_41 : decode cX4_countMoved 41 = .ok (.iload_n 2, 1) := by decide +kernel
theorem dX4_countMoved_42 : decode cX4_countMoved 42 = .ok (.invokevirtual 54, 3) := by decide +kernel
theorem dX4_countMoved_45 : decode cX4_countMoved 45 = .ok (.if_icmp .eq 6, 3) := by decide +kernel
theorem dX4_countMoved_48 : decode cX4_countMoved 48 = .ok (.iinc 1 1, 3) := by decide +kernel
theorem dX4_countMoved_51 : decode cX4_countMoved 51 = .ok (.iinc 2 1, 3) := by decide +kernel
theorem dX4_countMoved_54 : decode cX4_countMoved 54 = .ok (.goto (-50), 3) := by decide +kernel
theorem dX4_countMoved_57 : decode cX4_countMoved 57 = .ok (.iload_n 1, 1) := by decide +kernel
theorem dX4_countMoved_58 : decode cX4_countMoved 58 = .ok (.ireturn, 1) := by decide +kernel
theorem dX4_firstByWays_0 : decode cX4_firstByWays 0 = .ok (.aload_n 0, 1) := by decide +kernel
theorem dX4_firstByWays_1 : decode cX4_firstByWays 1 = .ok (.invokevirtual 99, 3) := by decide +kernel
theorem dX4_firstByWays_4 : decode cX4_firstByWays 4 = .ok (.aload_n 0, 1) := by decide +kernel
theorem dX4_firstByWays_5 : decode cX4_firstByWays 5 = .ok (.getfield 14, 3) := by decide +kernel
theorem dX4_firstByWays_8 : decode cX4_firstByWays 8 = .ok (.iload_n 1, 1) := by decide +kernel
theorem dX4_firstByWays_9 : decode cX4_firstByWays 9 = .ok (.invokevirtual 54, 3) := by decide +kernel
theorem dX4_firstByWays_12 : decode cX4_firstByWays 12 = .ok (.istore_n 2, 1) := by decide +kernel
theorem dX4_firstByWays_13 : decode cX4_firstByWays 13 = .ok (.iconst 0, 1) := by decide +kernel
theorem dX4_firstByWays_14 : decode cX4_firstByWays 14 = .ok (.istore_n 3, 1) := by decide +kernel
theorem dX4_firstByWays_15 : decode cX4_firstByWays 15 = .ok (.iload_n 3, 1) := by decide +kernel
theorem dX4_firstByWays_16 : decode cX4_firstByWays 16 = .ok (.bipush 16, 2) := by decide +kernel
theorem dX4_firstByWays_18 : decode cX4_firstByWays 18 = .ok (.if_icmp .ge 40, 3) := by decide +kernel
theorem dX4_firstByWays_21 : decode cX4_firstByWays 21 = .ok (.aload_n 0, 1) := by decide +kernel
theorem dX4_firstByWays_22 : decode cX4_firstByWays 22 = .ok (.iload_n 3, 1) := by decide +kernel
theorem dX4_firstByWays_23 : decode cX4_firstByWays 23 = .ok (.iload_n 1, 1) := by decide +kernel
theorem dX4_firstByWays_24 : decode cX4_firstByWays 24 = .ok (.invokevirtual 102, 3) := by decide +kernel
theorem dX4_firstByWays_27 : decode cX4_firstByWays 27 = .ok (.istore 4, 2) := by decide +kernel
theorem dX4_firstByWays_29 : decode cX4_firstByWays 29 = .ok (.iload 4, 2) := by decide +kernel
theorem dX4_firstByWays_31 : decode cX4_firstByWays 31 = .ok (.ldc 105, 2) := by decide +kernel
theorem dX4_firstByWays_33 : decode cX4_firstByWays 33 = .ok (.if_icmp .eq 19, 3) := by decide +kernel
theorem dX4_firstByWays_36 : decode cX4_firstByWays 36 = .ok (.iload_n 2, 1) := by decide +kernel
theorem dX4_firstByWays_37 : decode cX4_firstByWays 37 = .ok (.aload_n 0, 1) := by decide +kernel
theorem dX4_firstByWays_38 : decode cX4_firstByWays 38 = .ok (.getfield 14, 3) := by decide +kernel
theorem dX4_firstByWays_41 : decode cX4_firstByWays 41 = .ok (.iload_n 3, 1) := by decide +kernel
theorem dX4_firstByWays_42 : decode cX4_firstByWays 42 = .ok (.invokevirtual 54, 3) := by decide +kernel
theorem dX4_firstByWays_45 : decode cX4_firstByWays 45 = .ok (.iload 4, 2) := by decide +kernel
theorem dX4_firstByWays_47 : decode cX4_firstByWays 47 = .ok (.iadd, 1) := by decide +kernel
theorem dX4_firstByWays_48 : decode cX4_firstByWays 48 = .ok (.invokestatic 73, 3) := by decide +kernel
theorem dX4_firstByWays_51 : decode cX4_firstByWays 51 = .ok (.istore_n 2, 1) := by decide +kernel
theorem dX4_firstByWays_52 : decode cX4_firstByWays 52 = .ok (.iinc 3 1, 3) := by decide +kernel
theorem dX4_firstByWays_55 : decode cX4_firstByWays 55 = .ok (.goto (-40), 3) := by decide +kernel
theorem dX4_firstByWays_58 : decode cX4_firstByWays 58 = .ok (.iload_n 2, 1) := by decide +kernel
theorem dX4_firstByWays_59 : decode cX4_firstByWays 59 = .ok (.ireturn, 1) := by decide +kernel
theorem dX4_lastByWays_0 : decode cX4_lastByWays 0 = .ok (.aload_n 0, 1) := by decide +kernel
theorem dX4_lastByWays_1 : decode cX4_lastByWays 1 = .ok (.invokevirtual 99, 3) := by decide +kernel
theorem dX4_lastByWays_4 : decode cX4_lastByWays 4 = .ok (.aload_n 0, 1) := by decide +kernel
theorem dX4_lastByWays_5 : decode cX4_lastByWays 5 = .ok (.getfield 20, 3) := by decide +kernel
theorem dX4_lastByWays_8 : decode cX4_lastByWays 8 = .ok (.iload_n 1, 1) := by decide +kernel
theorem dX4_lastByWays_9 : decode cX4_lastByWays 9 = .ok (.invokevirtual 54, 3) := by decide +kernel
theorem dX4_lastByWays_12 : decode cX4_lastByWays 12 = .ok (.istore_n 2, 1) := by decide +kernel
theorem dX4_lastByWays_13 : decode cX4_lastByWays 13 = .ok (.iconst 0, 1) := by decide +kernel
theorem dX4_lastByWays_14 : decode cX4_lastByWays 14 = .ok (.istore_n 3, 1) := by decide +kernel
theorem dX4_lastByWays_15 : decode cX4_lastByWays 15 = .ok (.iload_n 3, 1) := by decide +kernel
theorem dX4_lastByWays_16 : decode cX4_lastByWays 16 = .ok (.bipush 16, 2) := by decide +kernel
theorem dX4_lastByWays_18 : decode cX4_lastByWays 18 = .ok (.if_icmp .ge 40, 3) := by decide +kernel
theorem dX4_lastByWays_21 : decode cX4_lastByWays 21 = .ok (.aload_n 0, 1) := by decide +kernel
theorem dX4_lastByWays_22 : decode cX4_lastByWays 22 = .ok (.iload_n 1, 1) := by decide +kernel
theorem dX4_lastByWays_23 : decode cX4_lastByWays 23 = .ok (.iload_n 3, 1) := by decide +kernel
theorem dX4_lastByWays_24 : decode cX4_lastByWays 24 = .ok (.invokevirtual 102, 3) := by decide +kernel
theorem dX4_lastByWays_27 : decode cX4_lastByWays 27 = .ok (.istore 4, 2) := by decide +kernel
theorem dX4_lastByWays_29 : decode cX4_lastByWays 29 = .ok (.iload 4, 2) := by decide +kernel
theorem dX4_lastByWays_31 : decode cX4_lastByWays 31 = .ok (.ldc 105, 2) := by decide +kernel
theorem dX4_lastByWays_33 : decode cX4_lastByWays 33 = .ok (.if_icmp .eq 19, 3) := by decide +kernel
theorem dX4_lastByWays_36 : decode cX4_lastByWays 36 = .ok (.iload_n 2, 1) := by decide +kernel
theorem dX4_lastByWays_37 : decode cX4_lastByWays 37 = .ok (.aload_n 0, 1) := by decide +kernel
theorem dX4_lastByWays_38 : decode cX4_lastByWays 38 = .ok (.getfield 20, 3) := by decide +kernel
theorem dX4_lastByWays_41 : decode cX4_lastByWays 41 = .ok (.iload_n 3, 1) := by decide +kernel
theorem dX4_lastByWays_42 : decode cX4_lastByWays 42 = .ok (.invokevirtual 54, 3) := by decide +kernel
theorem dX4_lastByWays_45 : decode cX4_lastByWays 45 = .ok (.iload 4, 2) := by decide +kernel
theorem dX4_lastByWays_47 : decode cX4_lastByWays 47 = .ok (.isub, 1) := by decide +kernel
theorem dX4_lastByWays_48 : decode cX4_lastByWays 48 = .ok (.invokestatic 79, 3) := by decide +kernel
theorem dX4_lastByWays_51 : decode cX4_lastByWays 51 = .ok (.istore_n 2, 1) := by decide +kernel
theorem dX4_lastByWays_52 : decode cX4_lastByWays 52 = .ok (.iinc 3 1, 3) := by decide +kernel
theorem dX4_lastByWays_55 : decode cX4_lastByWays 55 = .ok (.goto (-40), 3) := by decide +kernel
theorem dX4_lastByWays_58 : decode cX4_lastByWays 58 = .ok (.iload_n 2, 1) := by decide +kernel
theorem dX4_lastByWays_59 : decode cX4_lastByWays 59 = .ok (.ireturn, 1) := by decide +kernel
theorem dX4_measureWays_0 : decode cX4_measureWays 0 = .ok (.aload_n 0, 1) := by decide +kernel
theorem dX4_measureWays_1 : decode cX4_measureWays 1 = .ok (.getfield 44, 3) := by decide +kernel
theorem dX4_measureWays_4 : decode cX4_measureWays 4 = .ok (.ldc 105, 2) := by decide +kernel
theorem dX4_measureWays_6 : decode cX4_measureWays 6 = .ok (.invokevirtual 47, 3) := by decide +kernel
theorem dX4_measureWays_9 : decode cX4_measureWays 9 = .ok (.iconst 0, 1) := by decide +kernel
theorem dX4_measureWays_10 : decode cX4_measureWays 10 = .ok (.istore_n 1, 1) := by decide +kernel
theorem dX4_measureWays_11 : decode cX4_measureWays 11 = .ok (.iload_n 1, 1) := by decide +kernel
theorem dX4_measureWays_12 : decode cX4_measureWays 12 = .ok (.aload_n 0, 1) := by decide +kernel
theorem dX4_measureWays_13 : decode cX4_measureWays 13 = .ok (.getfield 50, 3) := by decide +kernel
theorem dX4_measureWays_16 : decode cX4_measureWays 16 = .ok (.if_icmp .ge 37, 3) := by decide +kernel
theorem dX4_measureWays_19 : decode cX4_measureWays 19 = .ok (.aload_n 0, 1) := by decide +kernel
theorem dX4_measureWays_20 : decode cX4_measureWays 20 = .ok (.aload_n 0, 1) := by decide +kernel
theorem dX4_measureWays_21 : decode cX4_measureWays 21 = .ok (.getfield 23, 3) := by decide +kernel
theorem dX4_measureWays_24 : decode cX4_measureWays 24 = .ok (.iload_n 1, 1) := by decide +kernel
theorem dX4_measureWays_25 : decode cX4_measureWays 25 = .ok (.invokevirtual 54, 3) := by decide +kernel
theorem dX4_measureWays_28 : decode cX4_measureWays 28 = .ok (.aload_n 0, 1) := by decide +kernel
theorem dX4_measureWays_29 : decode cX4_measureWays 29 = .ok (.getfield 26, 3) := by decide +kernel
theorem dX4_measureWays_32 : decode cX4_measureWays 32 = .ok (.iload_n 1, 1) := by decide +kernel
theorem dX4_measureWays_33 : decode cX4_measureWays 33 = .ok (.invokevirtual 54, 3) := by decide +kernel
theorem dX4_measureWays_36 : decode cX4_measureWays 36 = .ok (.aload_n 0, 1) := by decide +kernel
theorem dX4_measureWays_37 : decode cX4_measureWays 37 = .ok (.getfield 29, 3) := by decide +kernel
theorem dX4_measureWays_40 : decode cX4_measureWays 40 = .ok (.iload_n 1, 1) := by decide +kernel
theorem dX4_measureWays_41 : decode cX4_measureWays 41 = .ok (.invokevirtual 54, 3) := by decide +kernel
theorem dX4_measureWays_44 : decode cX4_measureWays 44 = .ok (.invokevirtual 106, 3) := by decide +kernel
theorem dX4_measureWays_47 : decode cX4_measureWays 47 = .ok (.iinc 1 1, 3) := by decide +kernel
theorem dX4_measureWays_50 : decode cX4_measureWays 50 = .ok (.goto (-39), 3) := by decide +kernel
theorem dX4_measureWays_53 : decode cX4_measureWays 53 = .ok (.iconst 0, 1) := by decide +kernel
theorem dX4_measureWays_54 : decode cX4_measureWays 54 = .ok (.istore_n 1, 1) := by decide +kernel
theorem dX4_measureWays_55 : decode cX4_measureWays 55 = .ok (.iload_n 1, 1) := by decide +kernel
theorem dX4_measureWays_56 : decode cX4_measureWays 56 = .ok (.bipush 16, 2) := by decide +kernel
theorem dX4_measureWays_58 : decode cX4_measureWays 58 = .ok (.if_icmp .ge 29, 3) := by decide +kernel
theorem dX4_measureWays_61 : decode cX4_measureWays 61 = .ok (.iconst 0, 1) := by decide +kernel
theorem dX4_measureWays_62 : decode cX4_measureWays 62 = .ok (.istore_n 2, 1) := by decide +kernel
theorem dX4_measureWays_63 : decode cX4_measureWays 63 = .ok (.iload_n 2, 1) := by decide +kernel
theorem dX4_measureWays_64 : decode cX4_measureWays 64 = .ok (.bipush 16, 2) := by decide +kernel
theorem dX4_measureWays_66 : decode cX4_measureWays 66 = .ok (.if_icmp .ge 15, 3) := by decide +kernel
theorem dX4_measureWays_69 : decode cX4_measureWays 69 = .ok (.aload_n 0, 1) := by decide +kernel
theorem dX4_measureWays_70 : decode cX4_measureWays 70 = .ok (.iload_n 2, 1) := by decide +kernel
theorem dX4_measureWays_71 : decode cX4_measureWays 71 = .ok (.iload_n 1, 1) := by decide +kernel
theorem dX4_measureWays_72 : decode cX4_measureWays 72 = .ok (.invokevirtual 110, 3) := by decide +kernel
theorem dX4_measureWays_75 : decode cX4_measureWays 75 = .ok (.iinc 2 1, 3) := by decide +kernel
theorem dX4_measureWays_78 : decode cX4_measureWays 78 = .ok (.goto (-15), 3) := by decide +kernel
theorem dX4_measureWays_81 : decode cX4_measureWays 81 = .ok (.iinc 1 1, 3) := by decide +kernel
theorem dX4_measureWays_84 : decode cX4_measureWays 84 = .ok (.goto (-29), 3) := by decide +kernel
theorem dX4_measureWays_87 : decode cX4_measureWays 87 = .ok (.return_, 1) := by decide +kernel
theorem dX4_lengthenAllVia_0 : decode cX4_lengthenAllVia 0 = .ok (.aload_n 0, 1) := by decide +kernel
theorem dX4_lengthenAllVia_1 : decode cX4_lengthenAllVia 1 = .ok (.iload_n 1, 1) := by decide +kernel
theorem dX4_lengthenAllVia_2 : decode cX4_lengthenAllVia 2 = .ok (.iload_n 2, 1) := by decide +kernel
theorem dX4_lengthenAllVia_3 : decode cX4_lengthenAllVia 3 = .ok (.invokevirtual 102, 3) := by decide +kernel
theorem dX4_lengthenAllVia_6 : decode cX4_lengthenAllVia 6 = .ok (.istore_n 3, 1) := by decide +kernel
theorem dX4_lengthenAllVia_7 : decode cX4_lengthenAllVia 7 = .ok (.iload_n 3, 1) := by decide +kernel
theorem dX4_lengthenAllVia_8 : decode cX4_lengthenAllVia 8 = .ok (.ldc 105, 2) := by decide +kernel
theorem dX4_lengthenAllVia_10 : decode cX4_lengthenAllVia 10 = .ok (.if_icmp .ne 4, 3) := by decide +kernel
theorem dX4_lengthenAllVia_13 : decode cX4_lengthenAllVia 13 = .ok (.return_, 1) := by decide +kernel
theorem dX4_lengthenAllVia_14 : decode cX4_lengthenAllVia 14 = .ok (.iconst 0, 1) := by decide +kernel
theorem dX4_lengthenAllVia_15 : decode cX4_lengthenAllVia 15 = .ok (.istore 4, 2) := by decide +kernel
theorem dX4_lengthenAllVia_17 : decode cX4_lengthenAllVia 17 = .ok (.iload 4, 2) := by decide +kernel
theorem dX4_lengthenAllVia_19 : decode cX4_lengthenAllVia 19 = .ok (.bipush 16, 2) := by decide +kernel
theorem dX4_lengthenAllVia_21 : decode cX4_lengthenAllVia 21 = .ok (.if_icmp .ge 36, 3) := by decide +kernel
theorem dX4_lengthenAllVia_24 : decode cX4_lengthenAllVia 24 = .ok (.aload_n 0, 1) := by decide +kernel
theorem dX4_lengthenAllVia_25 : decode cX4_lengthenAllVia 25 = .ok (.iload_n 2, 1) := by decide +kernel
theorem dX4_lengthenAllVia_26 : decode cX4_lengthenAllVia 26 = .ok (.iload 4, 2) := by decide +kernel
theorem dX4_lengthenAllVia_28 : decode cX4_lengthenAllVia 28 = .ok (.invokevirtual 102, 3) := by decide +kernel
theorem dX4_lengthenAllVia_31 : decode cX4_lengthenAllVia 31 = .ok (.istore 5, 2) := by decide +kernel
theorem dX4_lengthenAllVia_33 : decode cX4_lengthenAllVia 33 = .ok (.iload 5, 2) := by decide +kernel
theorem dX4_lengthenAllVia_35 : decode cX4_lengthenAllVia 35 = .ok (.ldc 105, 2) := by decide +kernel
theorem dX4_lengthenAllVia_37 : decode cX4_lengthenAllVia 37 = .ok (.if_icmp .eq 14, 3) := by decide +kernel
theorem dX4_lengthenAllVia_40 : decode cX4_lengthenAllVia 40 = .ok (.aload_n 0, 1) := by decide +kernel
theorem dX4_lengthenAllVia_41 : decode cX4_lengthenAllVia 41 = .ok (.iload_n 1, 1) := by decide +kernel
theorem dX4_lengthenAllVia_42 : decode cX4_lengthenAllVia 42 = .ok (.iload 4, 2) := by decide +kernel
theorem dX4_lengthenAllVia_44 : decode cX4_lengthenAllVia 44 = .ok (.iload_n 3, 1) := by decide +kernel
theorem dX4_lengthenAllVia_45 : decode cX4_lengthenAllVia 45 = .ok (.iload 5, 2) := by decide +kernel
theorem dX4_lengthenAllVia_47 : decode cX4_lengthenAllVia 47 = .ok (.iadd, 1) := by decide +kernel
theorem dX4_lengthenAllVia_48 : decode cX4_lengthenAllVia 48 = .ok (.invokevirtual 106, 3) := by decide +kernel
theorem dX4_lengthenAllVia_51 : decode cX4_lengthenAllVia 51 = .ok (.iinc 4 1, 3) := by decide +kernel
theorem dX4_lengthenAllVia_54 : decode cX4_lengthenAllVia 54 = .ok (.goto (-37), 3) := by decide +kernel
theorem dX4_lengthenAllVia_57 : decode cX4_lengthenAllVia 57 = .ok (.return_, 1) := by decide +kernel
theorem dX4_wayBetween_0 : decode cX4_wayBetween 0 = .ok (.aload_n 0, 1) := by decide +kernel
theorem dX4_wayBetween_1 : decode cX4_wayBetween 1 = .ok (.getfield 44, 3) := by decide +kernel
theorem dX4_wayBetween_4 : decode cX4_wayBetween 4 = .ok (.iload_n 1, 1) := by decide +kernel
theorem dX4_wayBetween_5 : decode cX4_wayBetween 5 = .ok (.bipush 16, 2) := by decide +kernel
theorem dX4_wayBetween_7 : decode cX4_wayBetween 7 = .ok (.imul, 1) := by decide +kernel
theorem dX4_wayBetween_8 : decode cX4_wayBetween 8 = .ok (.iload_n 2, 1) := by decide +kernel
theorem dX4_wayBetween_9 : decode cX4_wayBetween 9 = .ok (.iadd, 1) := by decide +kernel
theorem dX4_wayBetween_10 : decode cX4_wayBetween 10 = .ok (.invokevirtual 54, 3) := by decide +kernel
theorem dX4_wayBetween_13 : decode cX4_wayBetween 13 = .ok (.ireturn, 1) := by decide +kernel
theorem dX4_lengthen_0 : decode cX4_lengthen 0 = .ok (.aload_n 0, 1) := by decide +kernel
theorem dX4_lengthen_1 : decode cX4_lengthen 1 = .ok (.getfield 44, 3) := by decide +kernel
theorem dX4_lengthen_4 : decode cX4_lengthen 4 = .ok (.iload_n 1, 1) := by decide +kernel
theorem dX4_lengthen_5 : decode cX4_lengthen 5 = .ok (.bipush 16, 2) := by decide +kernel
theorem dX4_lengthen_7 : decode cX4_lengthen 7 = .ok (.imul, 1) := by decide +kernel
theorem dX4_lengthen_8 : decode cX4_lengthen 8 = .ok (.iload_n 2, 1) := by decide +kernel
theorem dX4_lengthen_9 : decode cX4_lengthen 9 = .ok (.iadd, 1) := by decide +kernel
theorem dX4_lengthen_10 : decode cX4_lengthen 10 = .ok (.aload_n 0, 1) := by decide +kernel
theorem dX4_lengthen_11 : decode cX4_lengthen 11 = .ok (.iload_n 1, 1) := by decide +kernel
theorem dX4_lengthen_12 : decode cX4_lengthen 12 = .ok (.iload_n 2, 1) := by decide +kernel
theorem dX4_lengthen_13 : decode cX4_lengthen 13 = .ok (.invokevirtual 102, 3) := by decide +kernel
theorem dX4_lengthen_16 : decode cX4_lengthen 16 = .ok (.iload_n 3, 1) := by decide +kernel
theorem dX4_lengthen_17 : decode cX4_lengthen 17 = .ok (.invokestatic 73, 3) := by decide +kernel
theorem dX4_lengthen_20 : decode cX4_lengthen 20 = .ok (.invokevirtual 58, 3) := by decide +kernel
theorem dX4_lengthen_23 : decode cX4_lengthen 23 = .ok (.return_, 1) := by decide +kernel
theorem dJ6_bitCount_0f7a4_0 : decode cJ6_bitCount_0f7a4 0 = .ok (.iload_n 0, 1) := by decide +kernel
theorem dJ6_bitCount_0f7a4_1 : decode cJ6_bitCount_0f7a4 1 = .ok (.iload_n 0, 1) := by decide +kernel
theorem dJ6_bitCount_0f7a4_2 : decode cJ6_bitCount_0f7a4 2 = .ok (.iconst 1, 1) := by decide +kernel
theorem dJ6_bitCount_0f7a4_3 : decode cJ6_bitCount_0f7a4 3 = .ok (.iushr, 1) := by decide +kernel
theorem dJ6_bitCount_0f7a4_4 : decode cJ6_bitCount_0f7a4 4 = .ok (.ldc_w 265, 3) := by decide +kernel
theorem dJ6_bitCount_0f7a4_7 : decode cJ6_bitCount_0f7a4 7 = .ok (.iand, 1) := by decide +kernel
theorem dJ6_bitCount_0f7a4_8 : decode cJ6_bitCount_0f7a4 8 = .ok (.isub, 1) := by decide +kernel
theorem dJ6_bitCount_0f7a4_9 : decode cJ6_bitCount_0f7a4 9 = .ok (.istore_n 0, 1) := by decide +kernel
theorem dJ6_bitCount_0f7a4_10 : decode cJ6_bitCount_0f7a4 10 = .ok (.iload_n 0, 1) := by decide +kernel
theorem dJ6_bitCount_0f7a4_11 : decode cJ6_bitCount_0f7a4 11 = .ok (.ldc_w 266, 3) := by decide +kernel
theorem dJ6_bitCount_0f7a4_14 : decode cJ6_bitCount_0f7a4 14 = .ok (.iand, 1) := by decide +kernel
theorem dJ6_bitCount_0f7a4_15 : decode cJ6_bitCount_0f7a4 15 = .ok (.iload_n 0, 1) := by decide +kernel
theorem dJ6_bitCount_0f7a4_16 : decode cJ6_bitCount_0f7a4 16 = .ok (.iconst 2, 1) := by decide +kernel
theorem dJ6_bitCount_0f7a4_17 : decode cJ6_bitCount_0f7a4 17 = .ok (.iushr, 1) := by decide +kernel
theorem dJ6_bitCount_0f7a4_18 : decode cJ6_bitCount_0f7a4 18 = .ok (.ldc_w 266, 3) := by decide +kernel
theorem dJ6_bitCount_0f7a4_21 : decode cJ6_bitCount_0f7a4 21 = .ok (.iand, 1) := by decide +kernel
theorem dJ6_bitCount_0f7a4_22 : decode cJ6_bitCount_0f7a4 22 = .ok (.iadd, 1) := by decide +kernel
theorem dJ6_bitCount_0f7a4_23 : decode cJ6_bitCount_0f7a4 23 = .ok (.istore_n 0, 1) := by decide +kernel
theorem dJ6_bitCount_0f7a4_24 : decode cJ6_bitCount_0f7a4 24 = .ok (.iload_n 0, 1) := by decide +kernel
theorem dJ6_bitCount_0f7a4_25 : decode cJ6_bitCount_0f7a4 25 = .ok (.iload_n 0, 1) := by decide +kernel
theorem dJ6_bitCount_0f7a4_26 : decode cJ6_bitCount_0f7a4 26 = .ok (.iconst 4, 1) := by decide +kernel
theorem dJ6_bitCount_0f7a4_27 : decode cJ6_bitCount_0f7a4 27 = .ok (.iushr, 1) := by decide +kernel
theorem dJ6_bitCount_0f7a4_28 : decode cJ6_bitCount_0f7a4 28 = .ok (.iadd, 1) := by decide +kernel
theorem dJ6_bitCount_0f7a4_29 : decode cJ6_bitCount_0f7a4 29 = .ok (.ldc_w 267, 3) := by decide +kernel
theorem dJ6_bitCount_0f7a4_32 : decode cJ6_bitCount_0f7a4 32 = .ok (.iand, 1) := by decide +kernel
theorem dJ6_bitCount_0f7a4_33 : decode cJ6_bitCount_0f7a4 33 = .ok (.istore_n 0, 1) := by decide +kernel
theorem dJ6_bitCount_0f7a4_34 : decode cJ6_bitCount_0f7a4 34 = .ok (.iload_n 0, 1) := by decide +kernel
theorem dJ6_bitCount_0f7a4_35 : decode cJ6_bitCount_0f7a4 35 = .ok (.iload_n 0, 1) := by decide +kernel
theorem dJ6_bitCount_0f7a4_36 : decode cJ6_bitCount_0f7a4 36 = .ok (.bipush 8, 2) := by decide +kernel
theorem dJ6_bitCount_0f7a4_38 : decode cJ6_bitCount_0f7a4 38 = .ok (.iushr, 1) := by decide +kernel
theorem dJ6_bitCount_0f7a4_39 : decode cJ6_bitCount_0f7a4 39 = .ok (.iadd, 1) := by decide +kernel
theorem dJ6_bitCount_0f7a4_40 : decode cJ6_bitCount_0f7a4 40 = .ok (.istore_n 0, 1) := by decide +kernel
theorem dJ6_bitCount_0f7a4_41 : decode cJ6_bitCount_0f7a4 41 = .ok (.iload_n 0, 1) := by decide +kernel
theorem dJ6_bitCount_0f7a4_42 : decode cJ6_bitCount_0f7a4 42 = .ok (.iload_n 0, 1) := by decide +kernel
theorem dJ6_bitCount_0f7a4_43 : decode cJ6_bitCount_0f7a4 43 = .ok (.bipush 16, 2) := by decide +kernel
theorem dJ6_bitCount_0f7a4_45 : decode cJ6_bitCount_0f7a4 45 = .ok (.iushr, 1) := by decide +kernel
theorem dJ6_bitCount_0f7a4_46 : decode cJ6_bitCount_0f7a4 46 = .ok (.iadd, 1) := by decide +kernel
theorem dJ6_bitCount_0f7a4_47 : decode cJ6_bitCount_0f7a4 47 = .ok (.istore_n 0, 1) := by decide +kernel
theorem dJ6_bitCount_0f7a4_48 : decode cJ6_bitCount_0f7a4 48 = .ok (.iload_n 0, 1) := by decide +kernel
theorem dJ6_bitCount_0f7a4_49 : decode cJ6_bitCount_0f7a4 49 = .ok (.bipush 63, 2) := by decide +kernel
theorem dJ6_bitCount_0f7a4_51 : decode cJ6_bitCount_0f7a4 51 = .ok (.iand, 1) := by decide +kernel
theorem dJ6_bitCount_0f7a4_52 : decode cJ6_bitCount_0f7a4 52 = .ok (.ireturn, 1) := by decide +kernel
theorem dJ9_max_7cf53_0 : decode cJ9_max_7cf53 0 = .ok (.iload_n 0, 1) := by decide +kernel
theorem dJ9_max_7cf53_1 : decode cJ9_max_7cf53 1 = .ok (.iload_n 1, 1) := by decide +kernel
theorem dJ9_max_7cf53_2 : decode cJ9_max_7cf53 2 = .ok (.if_icmp .lt 7, 3) := by decide +kernel
theorem dJ9_max_7cf53_5 : decode cJ9_max_7cf53 5 = .ok (.iload_n 0, 1) := by decide +kernel
theorem dJ9_max_7cf53_6 : decode cJ9_max_7cf53 6 = .ok (.goto 4, 3) := by decide +kernel
theorem dJ9_max_7cf53_9 : decode cJ9_max_7cf53 9 = .ok (.iload_n 1, 1) := by decide +kernel
theorem dJ9_max_7cf53_10 : decode cJ9_max_7cf53 10 = .ok (.ireturn, 1) := by decide +kernel
theorem dJ9_min_7cf53_0 : decode cJ9_min_7cf53 0 = .ok (.iload_n 0, 1) := by decide +kernel
theorem dJ9_min_7cf53_1 : decode cJ9_min_7cf53 1 = .ok (.iload_n 1, 1) := by decide +kernel
theorem dJ9_min_7cf53_2 : decode cJ9_min_7cf53 2 = .ok (.if_icmp .gt 7, 3) := by decide +kernel
theorem dJ9_min_7cf53_5 : decode cJ9_min_7cf53 5 = .ok (.iload_n 0, 1) := by decide +kernel
theorem dJ9_min_7cf53_6 : decode cJ9_min_7cf53 6 = .ok (.goto 4, 3) := by decide +kernel
theorem dJ9_min_7cf53_9 : decode cJ9_min_7cf53 9 = .ok (.iload_n 1, 1) := by decide +kernel
theorem dJ9_min_7cf53_10 : decode cJ9_min_7cf53 10 = .ok (.ireturn, 1) := by decide +kernel
end
section
/-! numbers, under names that the walks use -/
theorem nI_lt1 {a b : Nat} (ha : a < 2147483648) (hb : b < 2147483648) (h : nI a < nI b) : a < b := (nI_ltI ha hb).1 h
theorem nI_lt0 {a b : Nat} (ha : a < 2147483648) (hb : b < 2147483648) (h : ¬ nI a < nI b) : b ≤ a := Nat.not_lt.mp fun q => h ((nI_ltI ha hb).2 q)
theorem nI_le1 {a b : Nat} (ha : a < 2147483648) (hb : b < 2147483648) (h : nI a ≤ nI b) : a ≤ b := (nI_leI ha hb).1 h
theorem nI_le0 {a b : Nat} (ha : a < 2147483648) (hb : b < 2147483648) (h : ¬ nI a ≤ nI b) : b < a := Nat.not_le.mp fun q => h ((nI_leI ha hb).2 q)
theorem nI_eq1 {a b : Nat} (ha : a < 2147483648) (hb : b < 2147483648) (h : nI a = nI b) : a = b := (nI_eq ha hb).1 h
theorem nI_eq0 {a b : Nat} (ha : a < 2147483648) (hb : b < 2147483648) (h : ¬ nI a = nI b) : a ≠ b := fun q => h ((nI_eq ha hb).2 q)
theorem q_inc1 (k : Nat) : nI k + Int32.ofInt 1 = nI (k + 1) := nI_1 k
theorem q_inc5 (k : Nat) : nI k + Int32.ofInt 5 = nI (k + 5) := nI_add k 5
theorem q_dec (k : Nat) : nI (k + 1) + Int32.ofInt (-1) = nI k := pk_m1 k
theorem q_dec1 {k : Nat} (h : 0 < k) : nI k + Int32.ofInt (-1) = nI (k - 1) := by
  obtain ⟨j, rfl⟩ : ∃ j, k = j + 1 := ⟨k - 1, by omega⟩
  exact q_dec j
/-! rows: a row object with its array -/
abbrev rowW (cA : ClassId) (a b n : Nat) (f : Nat → Int32) : va_W := [(a, .inr (3, [.ref b])), (b, .inl (cA, n, .inl f))]
/-- an int as a number -/
def q_n (x : Int32) : Nat := x.toNatClampNeg
/-- it is a number below n -/
def q_r (x : Int32) (n : Nat) : Prop := ∃ j : Nat, j < n ∧ x = nI j
theorem q_n_nI {k : Nat} (h : k < 2147483648) : q_n (nI k) = k := nI_clamp h
theorem q_r.lt {x : Int32} {n : Nat} (h : q_r x n) (hn : n ≤ 2147483648) : q_n x < n := by
  obtain ⟨j, h1, rfl⟩ := h
  rw [q_n_nI (by omega)]; exact h1
theorem q_r.eq {x : Int32} {n : Nat} (h : q_r x n) (hn : n ≤ 2147483648) : x = nI (q_n x) := by
  obtain ⟨j, h1, rfl⟩ := h
  rw [q_n_nI (by omega)]
theorem q_r.of {x : Int32} {n : Nat} (h0 : ¬ x < 0) (h1 : x < nI n) (hn : n < 2147483648) : q_r x n := by
  obtain ⟨j, hj, rfl⟩ := nI_of h0
  exact ⟨j, (nI_ltI hj hn).1 h1, rfl⟩
theorem q_r_nI {k n : Nat} (h : k < n) : q_r (nI k) n := ⟨k, h, rfl⟩
def rAt (n : Nat) (f : Nat → Int32) (x : Int32) : Int32 := if ¬ x < 0 ∧ x < nI n then f (q_n x) else 0
def rPut (n : Nat) (f : Nat → Int32) (x v : Int32) : Nat → Int32 := if ¬ x < 0 ∧ x < nI n then upd f (q_n x) v else f
theorem q_r.iff {x : Int32} {n : Nat} (hn : n < 2147483648) : (¬ x < 0 ∧ x < nI n) ↔ q_r x n := by
  refine ⟨fun h => q_r.of h.1 h.2 hn, fun h => ?_⟩
  obtain ⟨j, hj, rfl⟩ := h
  exact ⟨nI_pos (by omega), nI_lt hj hn⟩
theorem rAt_r {n : Nat} {f : Nat → Int32} {x : Int32} (h : q_r x n) (hn : n < 2147483648) : rAt n f x = f (q_n x) := if_pos ((q_r.iff hn).2 h)
theorem rPut_r {n : Nat} {f : Nat → Int32} {x v : Int32} (h : q_r x n) (hn : n < 2147483648) : rPut n f x v = upd f (q_n x) v := if_pos ((q_r.iff hn).2 h)
theorem rAt_nI {n k : Nat} {f : Nat → Int32} (h : k < n) (hn : n < 2147483648) : rAt n f (nI k) = f k := by rw [rAt_r (q_r_nI h) hn, q_n_nI (by omega)]
theorem rPut_nI {n k : Nat} {f : Nat → Int32} {v : Int32} (h : k < n) (hn : n < 2147483648) : rPut n f (nI k) v = upd f k v := by rw [rPut_r (q_r_nI h) hn, q_n_nI (by omega)]
/-- the first k places hold v -/
def fillTo (f : Nat → Int32) (v : Int32) (k : Nat) : Nat → Int32 := fun j => if j < k then v else f j
theorem fillTo_0 {f : Nat → Int32} {v : Int32} : fillTo f v 0 = f := by funext j; simp [fillTo]
theorem fillTo_s {f : Nat → Int32} {v : Int32} {k : Nat} : upd (fillTo f v k) k v = fillTo f v (k + 1) := by
  funext j
  simp only [upd, fillTo]
  by_cases h : j = k
  · simp [h]
  · by_cases h2 : j < k
    · simp [h, h2, Nat.lt_succ_of_lt h2]
    · simp [h, h2, show ¬ j < k + 1 by omega]
/-- the first k places are those of r -/
def copyTo (f r : Nat → Int32) (k : Nat) : Nat → Int32 := fun j => if j < k then r j else f j
theorem copyTo_0 {f r : Nat → Int32} : copyTo f r 0 = f := by funext j; simp [copyTo]
theorem copyTo_s {f r : Nat → Int32} {k : Nat} : upd (copyTo f r k) k (r k) = copyTo f r (k + 1) := by
  funext j
  simp only [upd, copyTo]
  by_cases h : j = k
  · simp [h]
  · by_cases h2 : j < k
    · simp [h, h2, Nat.lt_succ_of_lt h2]
    · simp [h, h2, show ¬ j < k + 1 by omega]
theorem q_lt_of {x : Int32} {n : Nat} (h : ¬ nI n ≤ x) : x < nI n := by
  rw [Int32.le_iff_toInt_le] at h
  rw [Int32.lt_iff_toInt_lt]
  omega
theorem q_nlt_of {x : Int32} {n : Nat} (h : nI n ≤ x) : ¬ x < nI n := by
  rw [Int32.le_iff_toInt_le] at h
  rw [Int32.lt_iff_toInt_lt]
  omega
theorem rAt_n0 {n : Nat} {f : Nat → Int32} {x : Int32} (h : x < 0) : nI 0 = rAt n f x := by rw [rAt, if_neg (fun z => z.1 h)]; rfl
theorem rAt_n1 {n : Nat} {f : Nat → Int32} {x : Int32} (h : nI n ≤ x) : nI 0 = rAt n f x := by rw [rAt, if_neg (fun z => q_nlt_of h z.2)]; rfl
theorem rAt_in {n : Nat} {f : Nat → Int32} {x : Int32} (h0 : ¬ x < 0) (h1 : ¬ nI n ≤ x) : f (q_n x) = rAt n f x := by rw [rAt, if_pos ⟨h0, q_lt_of h1⟩]
theorem rPut_n0 {n : Nat} {f : Nat → Int32} {x v : Int32} (h : x < 0) : f = rPut n f x v := by rw [rPut, if_neg (fun z => z.1 h)]
theorem rPut_n1 {n : Nat} {f : Nat → Int32} {x v : Int32} (h : nI n ≤ x) : f = rPut n f x v := by rw [rPut, if_neg (fun z => q_nlt_of h z.2)]
theorem rPut_in {n : Nat} {f : Nat → Int32} {x v : Int32} (h0 : ¬ x < 0) (h1 : ¬ nI n ≤ x) : upd f (q_n x) v = rPut n f x v := by rw [rPut, if_pos ⟨h0, q_lt_of h1⟩]
theorem q_in0 {x : Int32} {n : Nat} (h0 : ¬ x < 0) (h1 : ¬ nI n ≤ x) (hn : n ≤ 1000) : x = nI (q_n x) := (q_r.of h0 (q_lt_of h1) (by omega)).eq (by omega)
theorem q_in1 {x : Int32} {n : Nat} (h0 : ¬ x < 0) (h1 : ¬ nI n ≤ x) (hn : n ≤ 1000) : q_n x < n := (q_r.of h0 (q_lt_of h1) (by omega)).lt (by omega)
theorem q_arrV {cI : ClassId} {N : Nat} {f f' : Nat → Value} (h : ∀ j, j < N → f j = f' j) : arrV cI N f = arrV cI N f' := by
  have e : (fun j : Fin N => f j.val) = (fun j : Fin N => f' j.val) := funext fun j => h j.val j.isLt
  unfold arrV
  rw [e]
theorem cell_ext {cA : ClassId} {n : Nat} {f f' : Nat → Int32} (h : ∀ j, j < n → f j = f' j) : vp_cell cA (n, .inl f) = vp_cell cA (n, .inl f') := by
  rw [vp_cell_i, vp_cell_i]
  exact q_arrV (fun j hj => by rw [h j hj])
theorem fill_ext {D : va_G} {cA : ClassId} {a b n k : Nat} {f : Nat → Int32} {v : Int32} {H : Heap} (hP : va_P D vwCl (rowW cA a b n (fillTo f v k)) H) (hk : n ≤ k) : va_P D vwCl (rowW cA a b n (fun _ => v)) H := by
  intro i q hi
  match i, hi with
  | 0, hi => exact hP 0 q hi
  | 1, hi =>
    cases hi
    have h1 : H[b]? = some (vp_cell cA (n, .inl (fillTo f v k))) := hP 1 _ rfl
    show H[b]? = some (vp_cell cA (n, .inl (fun _ => v)))
    rw [h1, cell_ext (f := fillTo f v k) (f' := fun _ => v) (fun j hj => by simp [fillTo, show j < k by omega])]
  | i + 2, hi => simp at hi
abbrev row2W (cA : ClassId) (a b a2 b2 n : Nat) (f r : Nat → Int32) : va_W := [(a, .inr (3, [.ref b])), (b, .inl (cA, n, .inl f)), (a2, .inr (3, [.ref b2])), (b2, .inl (cA, n, .inl r))]
theorem copy_ext {D : va_G} {cA : ClassId} {a b a2 b2 n k : Nat} {f r : Nat → Int32} {H : Heap} (hP : va_P D vwCl (row2W cA a b a2 b2 n (copyTo f r k) r) H) (hk : n ≤ k) : va_P D vwCl (row2W cA a b a2 b2 n r r) H := by
  intro i q hi
  match i, hi with
  | 0, hi => exact hP 0 q hi
  | 1, hi =>
    cases hi
    have h1 : H[b]? = some (vp_cell cA (n, .inl (copyTo f r k))) := hP 1 _ rfl
    show H[b]? = some (vp_cell cA (n, .inl r))
    rw [h1, cell_ext (f := copyTo f r k) (f' := r) (fun j hj => by simp [copyTo, show j < k by omega])]
  | 2, hi => exact hP 2 q hi
  | 3, hi => exact hP 3 q hi
  | i + 4, hi => simp at hi
abbrev rm_X3_at : Room := { frames := 0, cells := 0, slots := 0, locals := 0 }
set_option maxRecDepth 100000 in
set_option maxHeartbeats 4000000 in
theorem c_X3_at (l : Launch) (D : va_G) (cA : ClassId) (a b n : Nat) (f : Nat → Int32) (i : Int32) (hn : n ≤ 1000) : q_CI l yX3_at [Cond.code yX3_at cX3_at 2 (some .int)] rm_X3_at D cA [.ref a, .int i] (rowW cA a b n f) (rAt n f i) (rowW cA a b n f) := by
  refine q_startI RX3 (by decide +kernel) rfl (Nat.le_of_ble_eq_true rfl) ?_
  intro p e s m below meth c A args H locs ls hx hb hr hml hown hT hlk hP hK hD hA hS hl
  have hl : lv_has ls 2 [(0, .ref a), (1, .int i)] := hl
  refine lv_iload_n hx hb dX3_at_0 rfl (lv_at hl 1 rfl) ?_
  refine lv_if_lt (tgt := 22) hx hb dX3_at_1 (by decide) (fun c_1 => ?_) (fun c_1 => ?_)
  · refine lv_iconst (v := nI 0) hx hb dX3_at_22 (by decide +kernel) ?_
    exact q_iret hx hb hr hlk (by first | exact rAt_n0 c_1 | exact rAt_n1 c_10 | exact rAt_in c_1 c_10) hP hS dX3_at_23
  · refine lv_iload_n hx hb dX3_at_4 rfl (lv_at hl 1 rfl) ?_
    refine lv_aload_n hx hb dX3_at_5 rfl (lv_at hl 0 rfl) ?_
    refine q_get hx hb hT hown hK hP kw_X3 0 rfl rfl 0 (by decide) kf_X3_13 rfl (v := .ref b) rfl dX3_at_6 ?_
    refine va_alen hx hb hK hP 1 0 rfl rfl (v := nI n) rfl dX3_at_9 ?_
    refine lv_icmp_ge (tgt := 22) hx hb dX3_at_10 (by decide) (fun c_10 => ?_) (fun c_10 => ?_)
    · refine lv_iconst (v := nI 0) hx hb dX3_at_22 (by decide +kernel) ?_
      exact q_iret hx hb hr hlk (by first | exact rAt_n0 c_1 | exact rAt_n1 c_10 | exact rAt_in c_1 c_10) hP hS dX3_at_23
    · refine lv_aload_n hx hb dX3_at_13 rfl (lv_at hl 0 rfl) ?_
      refine q_get hx hb hT hown hK hP kw_X3 0 rfl rfl 0 (by decide) kf_X3_13 rfl (v := .ref b) rfl dX3_at_14 ?_
      refine lv_iload_n hx hb dX3_at_17 rfl (lv_at hl 1 rfl) ?_
      refine q_iald (f := f) hx hb hK hP 1 0 rfl rfl (q_n i) (q_in0 c_1 c_10 hn) (q_in1 c_1 c_10 hn) (by omega) dX3_at_18 ?_
      refine lv_goto (tgt := 23) hx hb dX3_at_19 (by decide) ?_
      exact q_iret hx hb hr hlk (by first | exact rAt_n0 c_1 | exact rAt_n1 c_10 | exact rAt_in c_1 c_10) hP hS dX3_at_23
abbrev rm_X3_atN : Room := { frames := 0, cells := 0, slots := 0, locals := 0 }
set_option maxRecDepth 100000 in
set_option maxHeartbeats 4000000 in
theorem c_X3_atN (l : Launch) (D : va_G) (cA : ClassId) (a b n : Nat) (f : Nat → Int32) (k : Nat) (hk : k < n) (hn : n ≤ 1000) : q_CI l yX3_at [Cond.code yX3_at cX3_at 2 (some .int)] rm_X3_atN D cA [.ref a, .int (nI k)] (rowW cA a b n f) (f k) (rowW cA a b n f) := by
  refine q_startI RX3 (by decide +kernel) rfl (Nat.le_of_ble_eq_true rfl) ?_
  intro p e s m below meth c A args H locs ls hx hb hr hml hown hT hlk hP hK hD hA hS hl
  have hl : lv_has ls 2 [(0, .ref a), (1, .int (nI k))] := hl
  refine lv_iload_n hx hb dX3_at_0 rfl (lv_at hl 1 rfl) ?_
  refine lv_if_lt (tgt := 22) hx hb dX3_at_1 (by decide) (fun c_1 => ?_) (fun c_1 => ?_)
  · exact absurd c_1 (nI_pos (by omega))
  · refine lv_iload_n hx hb dX3_at_4 rfl (lv_at hl 1 rfl) ?_
    refine lv_aload_n hx hb dX3_at_5 rfl (lv_at hl 0 rfl) ?_
    refine q_get hx hb hT hown hK hP kw_X3 0 rfl rfl 0 (by decide) kf_X3_13 rfl (v := .ref b) rfl dX3_at_6 ?_
    refine va_alen hx hb hK hP 1 0 rfl rfl (v := nI n) rfl dX3_at_9 ?_
    refine lv_icmp_ge (tgt := 22) hx hb dX3_at_10 (by decide) (fun c_10 => ?_) (fun c_10 => ?_)
    · have c_10 := nI_le1 (a := n) (b := k) (by omega) (by omega) c_10
      exfalso; omega
    · have c_10 := nI_le0 (a := n) (b := k) (by omega) (by omega) c_10
      refine lv_aload_n hx hb dX3_at_13 rfl (lv_at hl 0 rfl) ?_
      refine q_get hx hb hT hown hK hP kw_X3 0 rfl rfl 0 (by decide) kf_X3_13 rfl (v := .ref b) rfl dX3_at_14 ?_
      refine lv_iload_n hx hb dX3_at_17 rfl (lv_at hl 1 rfl) ?_
      refine q_iald (f := f) hx hb hK hP 1 0 rfl rfl (k) rfl (by omega) (by omega) dX3_at_18 ?_
      refine lv_goto (tgt := 23) hx hb dX3_at_19 (by decide) ?_
      exact q_iret hx hb hr hlk (by rfl) hP hS dX3_at_23
abbrev rm_X3_put : Room := { frames := 0, cells := 0, slots := 0, locals := 0 }
set_option maxRecDepth 100000 in
set_option maxHeartbeats 4000000 in
theorem c_X3_put (l : Launch) (D : va_G) (cA : ClassId) (a b n : Nat) (f : Nat → Int32) (i v : Int32) (hn : n ≤ 1000) : q_CV l yX3_put [Cond.code yX3_put cX3_put 3 none] rm_X3_put D cA [.ref a, .int i, .int v] (rowW cA a b n f) (rowW cA a b n (rPut n f i v)) := by
  refine q_startV RX3 (by decide +kernel) rfl (Nat.le_of_ble_eq_true rfl) ?_
  intro p e s m below meth c A args H locs ls hx hb hr hml hown hT hlk hP hK hD hA hS hl
  have hl : lv_has ls 3 [(0, .ref a), (1, .int i), (2, .int v)] := hl
  refine lv_iload_n hx hb dX3_put_0 rfl (lv_at hl 1 rfl) ?_
  refine lv_if_lt (tgt := 20) hx hb dX3_put_1 (by decide) (fun c_1 => ?_) (fun c_1 => ?_)
  · exact q_vret hx hb hr hlk (va_cast' hP (by first | rw [← rPut_n0 c_1] | rw [← rPut_n1 c_10] | rw [← rPut_in c_1 c_10])) hS dX3_put_20
  · refine lv_iload_n hx hb dX3_put_4 rfl (lv_at hl 1 rfl) ?_
    refine lv_aload_n hx hb dX3_put_5 rfl (lv_at hl 0 rfl) ?_
    refine q_get hx hb hT hown hK hP kw_X3 0 rfl rfl 0 (by decide) kf_X3_13 rfl (v := .ref b) rfl dX3_put_6 ?_
    refine va_alen hx hb hK hP 1 0 rfl rfl (v := nI n) rfl dX3_put_9 ?_
    refine lv_icmp_ge (tgt := 20) hx hb dX3_put_10 (by decide) (fun c_10 => ?_) (fun c_10 => ?_)
    · exact q_vret hx hb hr hlk (va_cast' hP (by first | rw [← rPut_n0 c_1] | rw [← rPut_n1 c_10] | rw [← rPut_in c_1 c_10])) hS dX3_put_20
    · refine lv_aload_n hx hb dX3_put_13 rfl (lv_at hl 0 rfl) ?_
      refine q_get hx hb hT hown hK hP kw_X3 0 rfl rfl 0 (by decide) kf_X3_13 rfl (v := .ref b) rfl dX3_put_14 ?_
      refine lv_iload_n hx hb dX3_put_17 rfl (lv_at hl 1 rfl) ?_
      refine lv_iload_n hx hb dX3_put_18 rfl (lv_at hl 2 rfl) ?_
      refine q_iast (f := f) (ws1 := rowW cA a b n (upd f (q_n i) v)) hx hb hK hP hD hS 1 0 rfl rfl (q_n i) (q_in0 c_1 c_10 hn) (q_in1 c_1 c_10 hn) (by omega) rfl dX3_put_19 (fun H locs hP hD hS => ?_)
      exact q_vret hx hb hr hlk (va_cast' hP (by first | rw [← rPut_n0 c_1] | rw [← rPut_n1 c_10] | rw [← rPut_in c_1 c_10])) hS dX3_put_20
abbrev rm_X3_putN : Room := { frames := 0, cells := 0, slots := 0, locals := 0 }
set_option maxRecDepth 100000 in
set_option maxHeartbeats 4000000 in
theorem c_X3_putN (l : Launch) (D : va_G) (cA : ClassId) (a b n : Nat) (f : Nat → Int32) (k : Nat) (v : Int32) (hk : k < n) (hn : n ≤ 1000) : q_CV l yX3_put [Cond.code yX3_put cX3_put 3 none] rm_X3_putN D cA [.ref a, .int (nI k), .int v] (rowW cA a b n f) (rowW cA a b n (upd f k v)) := by
  refine q_startV RX3 (by decide +kernel) rfl (Nat.le_of_ble_eq_true rfl) ?_
  intro p e s m below meth c A args H locs ls hx hb hr hml hown hT hlk hP hK hD hA hS hl
  have hl : lv_has ls 3 [(0, .ref a), (1, .int (nI k)), (2, .int v)] := hl
  refine lv_iload_n hx hb dX3_put_0 rfl (lv_at hl 1 rfl) ?_
  refine lv_if_lt (tgt := 20) hx hb dX3_put_1 (by decide) (fun c_1 => ?_) (fun c_1 => ?_)
  · exact absurd c_1 (nI_pos (by omega))
  · refine lv_iload_n hx hb dX3_put_4 rfl (lv_at hl 1 rfl) ?_
    refine lv_aload_n hx hb dX3_put_5 rfl (lv_at hl 0 rfl) ?_
    refine q_get hx hb hT hown hK hP kw_X3 0 rfl rfl 0 (by decide) kf_X3_13 rfl (v := .ref b) rfl dX3_put_6 ?_
    refine va_alen hx hb hK hP 1 0 rfl rfl (v := nI n) rfl dX3_put_9 ?_
    refine lv_icmp_ge (tgt := 20) hx hb dX3_put_10 (by decide) (fun c_10 => ?_) (fun c_10 => ?_)
    · have c_10 := nI_le1 (a := n) (b := k) (by omega) (by omega) c_10
      exfalso; omega
    · have c_10 := nI_le0 (a := n) (b := k) (by omega) (by omega) c_10
      refine lv_aload_n hx hb dX3_put_13 rfl (lv_at hl 0 rfl) ?_
      refine q_get hx hb hT hown hK hP kw_X3 0 rfl rfl 0 (by decide) kf_X3_13 rfl (v := .ref b) rfl dX3_put_14 ?_
      refine lv_iload_n hx hb dX3_put_17 rfl (lv_at hl 1 rfl) ?_
      refine lv_iload_n hx hb dX3_put_18 rfl (lv_at hl 2 rfl) ?_
      refine q_iast (f := f) (ws1 := rowW cA a b n (upd f k v)) hx hb hK hP hD hS 1 0 rfl rfl (k) rfl (by omega) (by omega) rfl dX3_put_19 (fun H locs hP hD hS => ?_)
      exact q_vret hx hb hr hlk hP hS dX3_put_20
abbrev rm_X3_fill : Room := { frames := 0, cells := 0, slots := 0, locals := 0 }
set_option maxRecDepth 100000 in
set_option maxHeartbeats 4000000 in
theorem c_X3_fill (l : Launch) (D : va_G) (cA : ClassId) (a b n : Nat) (f : Nat → Int32) (v : Int32) (hn : n ≤ 1000) : q_CV l yX3_fill [Cond.code yX3_fill cX3_fill 3 none] rm_X3_fill D cA [.ref a, .int v] (rowW cA a b n f) (rowW cA a b n (fun _ => v)) := by
  refine q_startV RX3 (by decide +kernel) rfl (Nat.le_of_ble_eq_true rfl) ?_
  intro p e s m below meth c A args H locs ls hx hb hr hml hown hT hlk hP hK hD hA hS hl
  have hl : lv_has ls 3 [(0, .ref a), (1, .int v)] := hl
  have zqL2 : ∀ (fu : Nat), ∀ (k : Nat), (n + 1 ≤ k + fu) → (k ≤ n) → ∀ (H : Heap) (locs : List Loc) (ls : Array Slot), va_P D vwCl (rowW cA a b n (fillTo f v k)) H → va_D A (rowW cA a b n (fillTo f v k)) → va_S A s.heap H locs → lv_has ls 3 [(0, .ref a), (1, .int v), (2, .int (nI k))] → W p l e rm_X3_fill s m args below meth c H locs 0 0 (q_GV D (rowW cA a b n (fun _ => v)) A below args s) (F0 m 2 ls []) := by
    intro fu
    induction fu with
    | zero =>
      intro k hfu hk H locs ls hP hD hS hl
      exfalso; omega
    | succ fu ih2 =>
      intro k hfu hk H locs ls hP hD hS hl
      refine lv_iload_n hx hb dX3_fill_2 rfl (lv_at hl 2 rfl) ?_
      refine lv_aload_n hx hb dX3_fill_3 rfl (lv_at hl 0 rfl) ?_
      refine q_get hx hb hT hown hK hP kw_X3 0 rfl rfl 0 (by decide) kf_X3_13 rfl (v := .ref b) rfl dX3_fill_4 ?_
      refine va_alen hx hb hK hP 1 0 rfl rfl (v := nI n) rfl dX3_fill_7 ?_
      refine lv_icmp_ge (tgt := 24) hx hb dX3_fill_8 (by decide) (fun c_8 => ?_) (fun c_8 => ?_)
      · have c_8 := nI_le1 (a := n) (b := k) (by omega) (by omega) c_8
        exact q_vret hx hb hr hlk (fill_ext hP (by omega)) hS dX3_fill_24
      · have c_8 := nI_le0 (a := n) (b := k) (by omega) (by omega) c_8
        refine lv_aload_n hx hb dX3_fill_11 rfl (lv_at hl 0 rfl) ?_
        refine q_get hx hb hT hown hK hP kw_X3 0 rfl rfl 0 (by decide) kf_X3_13 rfl (v := .ref b) rfl dX3_fill_12 ?_
        refine lv_iload_n hx hb dX3_fill_15 rfl (lv_at hl 2 rfl) ?_
        refine lv_iload_n hx hb dX3_fill_16 rfl (lv_at hl 1 rfl) ?_
        refine q_iast (f := fillTo f v k) (ws1 := rowW cA a b n (upd (fillTo f v k) k v)) hx hb hK hP hD hS 1 0 rfl rfl (k) rfl (by omega) (by omega) rfl dX3_fill_17 (fun H locs hP hD hS => ?_)
        refine lv_iinc (v := nI (k + 1)) (lv' := [(2, .int (nI (k + 1))), (0, .ref a), (1, .int v)]) hx hb dX3_fill_18 hl (k := 2) rfl (q_inc1 _) (by decide) rfl (fun ls hl => ?_)
        refine lv_goto (tgt := 2) hx hb dX3_fill_21 (by decide) ?_
        have ew9 : (rowW cA a b n (upd (fillTo f v k) k v)) = (rowW cA a b n (fillTo f v (k + 1))) := by first | with_reducible rfl | (first | rw [fillTo_0] | rw [fillTo_s])
        have hP : va_P D vwCl (rowW cA a b n (fillTo f v (k + 1))) H := va_cast' hP ew9
        have hD : va_D A (rowW cA a b n (fillTo f v (k + 1))) := va_castD hD ew9
        exact ih2 (k + 1) (by omega) (by omega) _ _ _ hP hD hS (lv_sub hl [1, 2, 0] rfl)
  refine lv_iconst (v := nI 0) hx hb dX3_fill_0 (by decide +kernel) ?_
  refine lv_istore_n (lv' := [(2, .int (nI 0)), (0, .ref a), (1, .int v)]) hx hb dX3_fill_1 rfl hl (by decide) rfl (fun ls hl => ?_)
  have ew9 : (rowW cA a b n f) = (rowW cA a b n (fillTo f v 0)) := by first | with_reducible rfl | (first | rw [fillTo_0] | rw [fillTo_s])
  have hP : va_P D vwCl (rowW cA a b n (fillTo f v 0)) H := va_cast' hP ew9
  have hD : va_D A (rowW cA a b n (fillTo f v 0)) := va_castD hD ew9
  exact zqL2 (n + 1) 0 (by omega) (by omega) _ _ _ hP hD hS (lv_sub hl [1, 2, 0] rfl)
abbrev rm_X3_copyFrom : Room := { frames := 1, cells := 0, slots := 0, locals := 21 }
set_option maxRecDepth 100000 in
set_option maxHeartbeats 4000000 in
theorem c_X3_copyFrom (l : Launch) (D : va_G) (cA : ClassId) (a b a2 b2 n : Nat) (f r : Nat → Int32) (hn : n ≤ 1000) : q_CV l yX3_copyFrom [Cond.code yX3_copyFrom cX3_copyFrom 3 none] rm_X3_copyFrom D cA [.ref a, .ref a2] (row2W cA a b a2 b2 n f r) (row2W cA a b a2 b2 n r r) := by
  refine q_startV RX3 (by decide +kernel) rfl (Nat.le_of_ble_eq_true rfl) ?_
  intro p e s m below meth c A args H locs ls hx hb hr hml hown hT hlk hP hK hD hA hS hl
  have hl : lv_has ls 3 [(0, .ref a), (1, .ref a2)] := hl
  have zqL2 : ∀ (fu : Nat), ∀ (k : Nat), (n + 1 ≤ k + fu) → (k ≤ n) → ∀ (H : Heap) (locs : List Loc) (ls : Array Slot), va_P D vwCl (row2W cA a b a2 b2 n (copyTo f r k) r) H → va_D A (row2W cA a b a2 b2 n (copyTo f r k) r) → va_S A s.heap H locs → lv_has ls 3 [(0, .ref a), (1, .ref a2), (2, .int (nI k))] → W p l e rm_X3_copyFrom s m args below meth c H locs 0 0 (q_GV D (row2W cA a b a2 b2 n r r) A below args s) (F0 m 2 ls []) := by
    intro fu
    induction fu with
    | zero =>
      intro k hfu hk H locs ls hP hD hS hl
      exfalso; omega
    | succ fu ih2 =>
      intro k hfu hk H locs ls hP hD hS hl
      refine lv_iload_n hx hb dX3_copyFrom_2 rfl (lv_at hl 2 rfl) ?_
      refine lv_aload_n hx hb dX3_copyFrom_3 rfl (lv_at hl 0 rfl) ?_
      refine q_get hx hb hT hown hK hP kw_X3 0 rfl rfl 0 (by decide) kf_X3_13 rfl (v := .ref b) rfl dX3_copyFrom_4 ?_
      refine va_alen hx hb hK hP 1 0 rfl rfl (v := nI n) rfl dX3_copyFrom_7 ?_
      refine lv_icmp_ge (tgt := 28) hx hb dX3_copyFrom_8 (by decide) (fun c_8 => ?_) (fun c_8 => ?_)
      · have c_8 := nI_le1 (a := n) (b := k) (by omega) (by omega) c_8
        exact q_vret hx hb hr hlk (copy_ext hP (by omega)) hS dX3_copyFrom_28
      · have c_8 := nI_le0 (a := n) (b := k) (by omega) (by omega) c_8
        refine lv_aload_n hx hb dX3_copyFrom_11 rfl (lv_at hl 0 rfl) ?_
        refine q_get hx hb hT hown hK hP kw_X3 0 rfl rfl 0 (by decide) kf_X3_13 rfl (v := .ref b) rfl dX3_copyFrom_12 ?_
        refine lv_iload_n hx hb dX3_copyFrom_15 rfl (lv_at hl 2 rfl) ?_
        refine lv_aload_n hx hb dX3_copyFrom_16 rfl (lv_at hl 1 rfl) ?_
        refine lv_iload_n hx hb dX3_copyFrom_17 rfl (lv_at hl 2 rfl) ?_
        refine q_callI (As := [.int (nI k)]) (r := r k) (wc := rowW cA a2 b2 n r) (w1 := rowW cA a2 b2 n r) (ws1 := row2W cA a b a2 b2 n (copyTo f r k) r) hx hb hml hown hT hK hP hD hS hA (c_X3_atN l D cA a2 b2 n r k (by omega) (by omega)) k_X3_at kl_X3_19 (q0 := 0) rfl rfl rfl [2, 3] rfl rfl rfl rfl hl rfl rfl (Nat.le_of_ble_eq_true rfl) ⟨⟨rfl, rfl⟩, Nat.le_of_ble_eq_true rfl, Nat.le_of_ble_eq_true rfl⟩ ⟨Nat.zero_le _, Nat.zero_le _⟩ dX3_copyFrom_18 (fun H locs hP hD hS => ?_)
        refine q_iast (f := copyTo f r k) (ws1 := row2W cA a b a2 b2 n (upd (copyTo f r k) k (r k)) r) hx hb hK hP hD hS 1 0 rfl rfl (k) rfl (by omega) (by omega) rfl dX3_copyFrom_21 (fun H locs hP hD hS => ?_)
        refine lv_iinc (v := nI (k + 1)) (lv' := [(2, .int (nI (k + 1))), (0, .ref a), (1, .ref a2)]) hx hb dX3_copyFrom_22 hl (k := 2) rfl (q_inc1 _) (by decide) rfl (fun ls hl => ?_)
        refine lv_goto (tgt := 2) hx hb dX3_copyFrom_25 (by decide) ?_
        have ew9 : (row2W cA a b a2 b2 n (upd (copyTo f r k) k (r k)) r) = (row2W cA a b a2 b2 n (copyTo f r (k + 1)) r) := by first | with_reducible rfl | (first | rw [copyTo_0] | rw [copyTo_s])
        have hP : va_P D vwCl (row2W cA a b a2 b2 n (copyTo f r (k + 1)) r) H := va_cast' hP ew9
        have hD : va_D A (row2W cA a b a2 b2 n (copyTo f r (k + 1)) r) := va_castD hD ew9
        exact ih2 (k + 1) (by omega) (by omega) _ _ _ hP hD hS (lv_sub hl [1, 2, 0] rfl)
  refine lv_iconst (v := nI 0) hx hb dX3_copyFrom_0 (by decide +kernel) ?_
  refine lv_istore_n (lv' := [(2, .int (nI 0)), (0, .ref a), (1, .ref a2)]) hx hb dX3_copyFrom_1 rfl hl (by decide) rfl (fun ls hl => ?_)
  have ew9 : (row2W cA a b a2 b2 n f r) = (row2W cA a b a2 b2 n (copyTo f r 0) r) := by first | with_reducible rfl | (first | rw [copyTo_0] | rw [copyTo_s])
  have hP : va_P D vwCl (row2W cA a b a2 b2 n (copyTo f r 0) r) H := va_cast' hP ew9
  have hD : va_D A (row2W cA a b a2 b2 n (copyTo f r 0) r) := va_castD hD ew9
  exact zqL2 (n + 1) 0 (by omega) (by omega) _ _ _ hP hD hS (lv_sub hl [1, 2, 0] rfl)
end
section
/-! a state by its arrays g and its numbers z -/
def gs (g : Nat → Nat → Int32) (k : Nat) (f : Nat → Int32) : Nat → Nat → Int32 := fun j => bif Nat.beq j k then f else g j
def zs (z : Nat → Nat) (k v : Nat) : Nat → Nat := fun j => bif Nat.beq j k then v else z j
theorem gs_s (g : Nat → Nat → Int32) (k : Nat) (f : Nat → Int32) : gs g k f k = f := by simp [gs]
theorem gs_n (g : Nat → Nat → Int32) {k j : Nat} (f : Nat → Int32) (h : j ≠ k) : gs g k f j = g j := by
  show (bif Nat.beq j k then f else g j) = g j
  cases hb : Nat.beq j k with
  | false => rfl
  | true => exact absurd (Nat.eq_of_beq_eq_true hb) h
theorem zs_s (z : Nat → Nat) (k v : Nat) : zs z k v k = v := by simp [zs]
theorem zs_n (z : Nat → Nat) {k j : Nat} (v : Nat) (h : j ≠ k) : zs z k v j = z j := by
  show (bif Nat.beq j k then v else z j) = z j
  cases hb : Nat.beq j k with
  | false => rfl
  | true => exact absurd (Nat.eq_of_beq_eq_true hb) h
abbrev yrW (cA : ClassId) (ad : Nat → Nat) (g : Nat → Nat → Int32) (z : Nat → Nat) : va_W := [(ad 71, .inr (4, [.ref (ad 12), .ref (ad 13), .ref (ad 14), .ref (ad 15), .ref (ad 16), .ref (ad 17), .ref (ad 18), .ref (ad 19), .ref (ad 20), .ref (ad 21), .int (nI (z 1))])), (ad 12, .inr (3, [.ref (ad 42)])), (ad 42, .inl (cA, 16, .inl (g 12))), (ad 13, .inr (3, [.ref (ad 43)])), (ad 43, .inl (cA, 16, .inl (g 13))), (ad 14, .inr (3, [.ref (ad 44)])), (ad 44, .inl (cA, 40, .inl (g 14))), (ad 15, .inr (3, [.ref (ad 45)])), (ad 45, .inl (cA, 40, .inl (g 15))), (ad 16, .inr (3, [.ref (ad 46)])), (ad 46, .inl (cA, 40, .inl (g 16))), (ad 17, .inr (3, [.ref (ad 47)])), (ad 47, .inl (cA, 16, .inl (g 17))), (ad 18, .inr (3, [.ref (ad 48)])), (ad 48, .inl (cA, 16, .inl (g 18))), (ad 19, .inr (3, [.ref (ad 49)])), (ad 49, .inl (cA, 16, .inl (g 19))), (ad 20, .inr (3, [.ref (ad 50)])), (ad 50, .inl (cA, 16, .inl (g 20))), (ad 21, .inr (3, [.ref (ad 51)])), (ad 51, .inl (cA, 256, .inl (g 21)))]
def yrW_a (ad : Nat → Nat) : List Nat := [ad 71, ad 12, ad 42, ad 13, ad 43, ad 14, ad 44, ad 15, ad 45, ad 16, ad 46, ad 17, ad 47, ad 18, ad 48, ad 19, ad 49, ad 20, ad 50, ad 21, ad 51]
theorem yrW_adr (cA : ClassId) (ad : Nat → Nat) (g : Nat → Nat → Int32) (z : Nat → Nat) : (yrW cA ad g z).map Prod.fst = yrW_a ad := rfl
abbrev psW (cA : ClassId) (ad : Nat → Nat) (g : Nat → Nat → Int32) (z : Nat → Nat) : va_W := [(ad 72, .inr (2, [.ref (ad 22), .ref (ad 23), .int (nI (z 2))])), (ad 22, .inr (3, [.ref (ad 52)])), (ad 52, .inl (cA, 16, .inl (g 22))), (ad 23, .inr (3, [.ref (ad 53)])), (ad 53, .inl (cA, 40, .inl (g 23)))]
def psW_a (ad : Nat → Nat) : List Nat := [ad 72, ad 22, ad 52, ad 23, ad 53]
theorem psW_adr (cA : ClassId) (ad : Nat → Nat) (g : Nat → Nat → Int32) (z : Nat → Nat) : (psW cA ad g z).map Prod.fst = psW_a ad := rfl
abbrev gpW (cA : ClassId) (ad : Nat → Nat) (g : Nat → Nat → Int32) (z : Nat → Nat) : va_W := [(ad 73, .inr (0, [.ref (ad 24), .ref (ad 25), .ref (ad 26), .ref (ad 27), .ref (ad 28), .int (nI (z 3))])), (ad 24, .inr (3, [.ref (ad 54)])), (ad 54, .inl (cA, 6, .inl (g 24))), (ad 25, .inr (3, [.ref (ad 55)])), (ad 55, .inl (cA, 36, .inl (g 25))), (ad 26, .inr (3, [.ref (ad 56)])), (ad 56, .inl (cA, 64, .inl (g 26))), (ad 27, .inr (3, [.ref (ad 57)])), (ad 57, .inl (cA, 64, .inl (g 27))), (ad 28, .inr (3, [.ref (ad 58)])), (ad 58, .inl (cA, 6, .inl (g 28)))]
def gpW_a (ad : Nat → Nat) : List Nat := [ad 73, ad 24, ad 54, ad 25, ad 55, ad 26, ad 56, ad 27, ad 57, ad 28, ad 58]
theorem gpW_adr (cA : ClassId) (ad : Nat → Nat) (g : Nat → Nat → Int32) (z : Nat → Nat) : (gpW cA ad g z).map Prod.fst = gpW_a ad := rfl
abbrev rlW (cA : ClassId) (ad : Nat → Nat) (g : Nat → Nat → Int32) (z : Nat → Nat) : va_W := [(ad 70, .inr (5, [.ref (ad 0), .ref (ad 1), .ref (ad 2), .ref (ad 3), .ref (ad 4), .ref (ad 5), .ref (ad 60), .ref (ad 61), .ref (ad 62), .ref (ad 63), .ref (ad 71), .ref (ad 72), .ref (ad 73), .ref (ad 6), .ref (ad 7), .int (nI (z 0))])), (ad 60, .inr (1, [.ref (ad 8)])), (ad 61, .inr (1, [.ref (ad 9)])), (ad 62, .inr (1, [.ref (ad 10)])), (ad 63, .inr (1, [.ref (ad 11)])), (ad 71, .inr (4, [.ref (ad 12), .ref (ad 13), .ref (ad 14), .ref (ad 15), .ref (ad 16), .ref (ad 17), .ref (ad 18), .ref (ad 19), .ref (ad 20), .ref (ad 21), .int (nI (z 1))])), (ad 72, .inr (2, [.ref (ad 22), .ref (ad 23), .int (nI (z 2))])), (ad 73, .inr (0, [.ref (ad 24), .ref (ad 25), .ref (ad 26), .ref (ad 27), .ref (ad 28), .int (nI (z 3))])), (ad 0, .inr (3, [.ref (ad 30)])), (ad 30, .inl (cA, 16, .inl (g 0))), (ad 1, .inr (3, [.ref (ad 31)])), (ad 31, .inl (cA, 16, .inl (g 1))), (ad 2, .inr (3, [.ref (ad 32)])), (ad 32, .inl (cA, 16, .inl (g 2))), (ad 3, .inr (3, [.ref (ad 33)])), (ad 33, .inl (cA, 16, .inl (g 3))), (ad 4, .inr (3, [.ref (ad 34)])), (ad 34, .inl (cA, 16, .inl (g 4))), (ad 5, .inr (3, [.ref (ad 35)])), (ad 35, .inl (cA, 8, .inl (g 5))), (ad 6, .inr (3, [.ref (ad 36)])), (ad 36, .inl (cA, 16, .inl (g 6))), (ad 7, .inr (3, [.ref (ad 37)])), (ad 37, .inl (cA, 40, .inl (g 7))), (ad 8, .inr (3, [.ref (ad 38)])), (ad 38, .inl (cA, 8, .inl (g 8))), (ad 9, .inr (3, [.ref (ad 39)])), (ad 39, .inl (cA, 16, .inl (g 9))), (ad 10, .inr (3, [.ref (ad 40)])), (ad 40, .inl (cA, 16, .inl (g 10))), (ad 11, .inr (3, [.ref (ad 41)])), (ad 41, .inl (cA, 16, .inl (g 11))), (ad 12, .inr (3, [.ref (ad 42)])), (ad 42, .inl (cA, 16, .inl (g 12))), (ad 13, .inr (3, [.ref (ad 43)])), (ad 43, .inl (cA, 16, .inl (g 13))), (ad 14, .inr (3, [.ref (ad 44)])), (ad 44, .inl (cA, 40, .inl (g 14))), (ad 15, .inr (3, [.ref (ad 45)])), (ad 45, .inl (cA, 40, .inl (g 15))), (ad 16, .inr (3, [.ref (ad 46)])), (ad 46, .inl (cA, 40, .inl (g 16))), (ad 17, .inr (3, [.ref (ad 47)])), (ad 47, .inl (cA, 16, .inl (g 17))), (ad 18, .inr (3, [.ref (ad 48)])), (ad 48, .inl (cA, 16, .inl (g 18))), (ad 19, .inr (3, [.ref (ad 49)])), (ad 49, .inl (cA, 16, .inl (g 19))), (ad 20, .inr (3, [.ref (ad 50)])), (ad 50, .inl (cA, 16, .inl (g 20))), (ad 21, .inr (3, [.ref (ad 51)])), (ad 51, .inl (cA, 256, .inl (g 21))), (ad 22, .inr (3, [.ref (ad 52)])), (ad 52, .inl (cA, 16, .inl (g 22))), (ad 23, .inr (3, [.ref (ad 53)])), (ad 53, .inl (cA, 40, .inl (g 23))), (ad 24, .inr (3, [.ref (ad 54)])), (ad 54, .inl (cA, 6, .inl (g 24))), (ad 25, .inr (3, [.ref (ad 55)])), (ad 55, .inl (cA, 36, .inl (g 25))), (ad 26, .inr (3, [.ref (ad 56)])), (ad 56, .inl (cA, 64, .inl (g 26))), (ad 27, .inr (3, [.ref (ad 57)])), (ad 57, .inl (cA, 64, .inl (g 27))), (ad 28, .inr (3, [.ref (ad 58)])), (ad 58, .inl (cA, 6, .inl (g 28)))]
def rlW_a (ad : Nat → Nat) : List Nat := [ad 70, ad 60, ad 61, ad 62, ad 63, ad 71, ad 72, ad 73, ad 0, ad 30, ad 1, ad 31, ad 2, ad 32, ad 3, ad 33, ad 4, ad 34, ad 5, ad 35, ad 6, ad 36, ad 7, ad 37, ad 8, ad 38, ad 9, ad 39, ad 10, ad 40, ad 11, ad 41, ad 12, ad 42, ad 13, ad 43, ad 14, ad 44, ad 15, ad 45, ad 16, ad 46, ad 17, ad 47, ad 18, ad 48, ad 19, ad 49, ad 20, ad 50, ad 21, ad 51, ad 22, ad 52, ad 23, ad 53, ad 24, ad 54, ad 25, ad 55, ad 26, ad 56, ad 27, ad 57, ad 28, ad 58]
theorem rlW_adr (cA : ClassId) (ad : Nat → Nat) (g : Nat → Nat → Int32) (z : Nat → Nat) : (rlW cA ad g z).map Prod.fst = rlW_a ad := rfl
/-! calls on the whole of the cells -/
theorem q_same {A : Nat → Prop} {ws w1 : va_W} (hD : va_D A ws) (h : w1.map Prod.fst = ws.map Prod.fst) : va_D A w1 := by
  have at' : ∀ (k : Nat) (q : Nat × va_E), w1[k]? = some q → ∃ q0, ws[k]? = some q0 ∧ q0.1 = q.1 := by
    intro k q hq
    have e1 : (w1.map Prod.fst)[k]? = some q.1 := by rw [List.getElem?_map, hq]; rfl
    rw [h, List.getElem?_map] at e1
    cases hw : ws[k]? with
    | none => rw [hw] at e1; cases e1
    | some q0 => rw [hw] at e1; exact ⟨q0, rfl, Option.some.inj e1⟩
  refine ⟨fun i j x y hi hj hxy => ?_, fun k q hk => ?_⟩
  · obtain ⟨x0, h1, h2⟩ := at' i x hi
    obtain ⟨y0, h3, h4⟩ := at' j y hj
    exact hD.1 i j x0 y0 h1 h3 (h2.trans (hxy.trans h4.symm))
  · obtain ⟨q0, h1, h2⟩ := at' k q hk
    rw [← h2]
    exact hD.2 k q0 h1
theorem q_freeW {A0 : Nat → Prop} {ws : va_W} {H0 H : Heap} {locs : List Loc} (hD : va_D A0 ws) (hS : va_S A0 H0 H locs) (hA : ∀ q, H0.size ≤ q → A0 q) : ∀ q, va_A ws H.size q → A0 q := by
  intro q h
  rcases h with ⟨k, e, h⟩ | h
  · exact hD.2 k (q, e) h
  · exact hA q (Nat.le_trans hS.1 h)
section QX
variable {p : Program} {l : Launch} {e : Env} {R : Room} {s : State} {m : MethodId} {args : Array Value} {below : List Frame} {meth : Method} {c : Code} {H : Heap} {locs : List Loc} {cells slots : Nat} {Q : State → Prop}
variable {cc : ByteArray} {pc nL : Nat} {ls : Array Slot} {rest : List Value} {D : va_G} {A : Nat → Prop} {a : Nat} {ws w1 pre wc suf ws1 : va_W} {H0 : Heap} {own : String} {cA : ClassId} {lv : List (Nat × Value)} {st : List Value}
theorem q_callIW {y : MethodName} {bytes : ByteArray} {maxL n index ci q0 b : Nat} {ret : Option FieldType} {rm : Room} {As : List Value} {r : Int32} {fs : List Value} {T : u_T} {N : Nat} {C : String}
    (hx : p.tables.exec = Jvm.exec) (hb : c.code = cc) (hml : c.maxLocals = nL) (hown : s.vm.findClass own = some m.cls) (hT : q_Tb s) (hK : va_K D vwCl [(cA, .int)] s) (hP : va_P D vwCl ws H) (hD : va_D A ws) (hS : va_S A H0 H locs) (hA : ∀ q : Nat, H0.size ≤ q → A q)
    (hM : q_CI l y [Cond.code y bytes maxL ret] rm D cA (.ref b :: As) ws r w1) (km : q_okM y bytes maxL ret n) (kl : q_ok (.methodLink own index y)) (hwc : ws[q0]? = some (b, .inr (ci, fs))) (hc : vwCl[ci]? = some (C, T, N)) (hyc : y.cls = C)
    (hadr : w1.map Prod.fst = ws.map Prod.fst) (hl : lv_has ls nL lv) (hlen : As.length = n) (hst : st = As.reverse ++ .ref b :: rest) (hw : (rest.map fun v => v.category).sum ≤ 8)
    (hR : (rm.cells = 0 ∧ rm.slots = 0) ∧ rm.frames + 1 ≤ R.frames ∧ 8 + (maxL + 11) + rm.locals ≤ R.locals) (hf : cells ≤ R.cells ∧ slots ≤ R.slots) (hdg : decode cc pc = .ok (.invokevirtual index, 3))
    (kk : ∀ (H1 : Heap) (locs1 : List Loc), va_P D vwCl w1 H1 → va_D A w1 → va_S A H0 H1 locs1 → W p l e R s m args below meth c H1 locs1 cells slots Q (F0 m (pc + 3) ls (.int r :: rest))) : W p l e R s m args below meth c H locs cells slots Q (F0 m pc ls st) := by
  obtain ⟨k1, k2, k3, k4, k5, k6⟩ := km
  have hF := q_freeW hD hS hA
  refine va_calli (va_runV (As := As) (rest := rest) (Ts := []) ⟨hx, hb, hml, hown, fun _ h => absurd h List.not_mem_nil⟩ (hM H.size) (C := y.cls) ⟨q_cb hT k1 k2 k5 k6 kl hR.1.1 hR.1.2 hR.2, hT.use k3 args, hT.use k4 args⟩ ⟨q_blind, ?_, fun U hU hW => q_pc hT hK hP hD U hU hW⟩ rfl hlen hl.1 hst (lv_room hw) hdg hf) hS (fun q _ h => hF q h) hF (fun r' u t H1 locs1 ht hvm hpost hB hz1 hk1 hS1 => ?_)
  · obtain ⟨cell, g1, g2, g3⟩ := va_recv hK hP hc hwc
    exact ⟨cell, g1, g2, by rw [hyc]; exact g3⟩
  · subst hpost
    exact kk H1 locs1 (ht ▸ hB) (q_same hD hadr) hS1
theorem q_callVW {y : MethodName} {bytes : ByteArray} {maxL n index ci q0 b : Nat} {ret : Option FieldType} {rm : Room} {As : List Value} {fs : List Value} {T : u_T} {N : Nat} {C : String}
    (hx : p.tables.exec = Jvm.exec) (hb : c.code = cc) (hml : c.maxLocals = nL) (hown : s.vm.findClass own = some m.cls) (hT : q_Tb s) (hK : va_K D vwCl [(cA, .int)] s) (hP : va_P D vwCl ws H) (hD : va_D A ws) (hS : va_S A H0 H locs) (hA : ∀ q : Nat, H0.size ≤ q → A q)
    (hM : q_CV l y [Cond.code y bytes maxL ret] rm D cA (.ref b :: As) ws w1) (km : q_okM y bytes maxL ret n) (kl : q_ok (.methodLink own index y)) (hwc : ws[q0]? = some (b, .inr (ci, fs))) (hc : vwCl[ci]? = some (C, T, N)) (hyc : y.cls = C)
    (hadr : w1.map Prod.fst = ws.map Prod.fst) (hl : lv_has ls nL lv) (hlen : As.length = n) (hst : st = As.reverse ++ .ref b :: rest) (hw : (rest.map fun v => v.category).sum ≤ 8)
    (hR : (rm.cells = 0 ∧ rm.slots = 0) ∧ rm.frames + 1 ≤ R.frames ∧ 8 + (maxL + 11) + rm.locals ≤ R.locals) (hf : cells ≤ R.cells ∧ slots ≤ R.slots) (hdg : decode cc pc = .ok (.invokevirtual index, 3))
    (kk : ∀ (H1 : Heap) (locs1 : List Loc), va_P D vwCl w1 H1 → va_D A w1 → va_S A H0 H1 locs1 → W p l e R s m args below meth c H1 locs1 cells slots Q (F0 m (pc + 3) ls rest)) : W p l e R s m args below meth c H locs cells slots Q (F0 m pc ls st) := by
  obtain ⟨k1, k2, k3, k4, k5, k6⟩ := km
  have hF := q_freeW hD hS hA
  refine va_callv (va_runV (As := As) (rest := rest) (Ts := []) ⟨hx, hb, hml, hown, fun _ h => absurd h List.not_mem_nil⟩ (hM H.size) (C := y.cls) ⟨q_cb hT k1 k2 k5 k6 kl hR.1.1 hR.1.2 hR.2, hT.use k3 args, hT.use k4 args⟩ ⟨q_blind, ?_, fun U hU hW => q_pc hT hK hP hD U hU hW⟩ rfl hlen hl.1 hst (lv_room hw) hdg hf) hS (fun q _ h => hF q h) hF (fun u t H1 locs1 ht hvm hpost hB hz1 hk1 hS1 => ?_)
  · obtain ⟨cell, g1, g2, g3⟩ := va_recv hK hP hc hwc
    exact ⟨cell, g1, g2, by rw [hyc]; exact g3⟩
  · exact kk H1 locs1 (ht ▸ hB) (q_same hD hadr) hS1
/-! a stretch of the cells is another object's world -/
theorem q_mid {cl : List vw_C} (hP : va_P D cl (pre ++ (wc ++ suf)) H) : va_P D cl wc H := fun k q hq => hP (pre.length + k) q (by
  have hl : k < wc.length := (List.getElem?_eq_some_iff.mp hq).1
  rw [List.getElem?_append_right (by omega), Nat.add_sub_cancel_left, List.getElem?_append_left hl]
  exact hq)
theorem q_midD (hD : va_D A (pre ++ (wc ++ suf))) : va_D A wc := by
  have at' : ∀ (k : Nat) (q : Nat × va_E), wc[k]? = some q → (pre ++ (wc ++ suf))[pre.length + k]? = some q := fun k q hq => by
    have hl : k < wc.length := (List.getElem?_eq_some_iff.mp hq).1
    rw [List.getElem?_append_right (by omega), Nat.add_sub_cancel_left, List.getElem?_append_left hl]
    exact hq
  exact ⟨fun i j x y hi hj hxy => by have := hD.1 _ _ x y (at' i x hi) (at' j y hj) hxy; omega, fun k q hk => hD.2 _ q (at' k q hk)⟩
theorem q_frameS {cl : List vw_C} {H1 : Heap} (hP : va_P D cl (pre ++ (wc ++ suf)) H) (hD : va_D A (pre ++ (wc ++ suf))) (hadr : w1.map Prod.fst = wc.map Prod.fst)
    (hk : ∀ q : Nat, q < H.size → ¬ va_A wc H.size q → H1[q]? = H[q]?) (hP1 : va_P D cl w1 H1) : va_P D cl (pre ++ (w1 ++ suf)) H1 ∧ va_D A (pre ++ (w1 ++ suf)) := by
  have hlen : w1.length = wc.length := by
    have h2 := congrArg List.length hadr
    simpa using h2
  refine ⟨fun k q hq => ?_, q_same hD (by simp only [List.map_append, hadr])⟩
  by_cases h1 : k < pre.length
  · rw [List.getElem?_append_left h1] at hq
    have h0 : (pre ++ (wc ++ suf))[k]? = some q := by rw [List.getElem?_append_left h1]; exact hq
    refine (hP k q h0).kept (hk q.1 (hP k q h0).lt (fun z => ?_))
    rcases z with ⟨j, e, hj⟩ | z
    · have hl : j < wc.length := (List.getElem?_eq_some_iff.mp hj).1
      have := hD.1 k (pre.length + j) q (q.1, e) h0 (by rw [List.getElem?_append_right (by omega), Nat.add_sub_cancel_left, List.getElem?_append_left hl]; exact hj) rfl
      omega
    · have := (hP k q h0).lt
      omega
  · rw [List.getElem?_append_right (by omega)] at hq
    by_cases h2 : k - pre.length < w1.length
    · rw [List.getElem?_append_left h2] at hq
      exact hP1 _ q hq
    · rw [List.getElem?_append_right (by omega)] at hq
      have h0 : (pre ++ (wc ++ suf))[k]? = some q := by rw [List.getElem?_append_right (by omega), List.getElem?_append_right (by omega), ← hlen]; exact hq
      refine (hP k q h0).kept (hk q.1 (hP k q h0).lt (fun z => ?_))
      rcases z with ⟨j, e, hj⟩ | z
      · have hl : j < wc.length := (List.getElem?_eq_some_iff.mp hj).1
        have := hD.1 k (pre.length + j) q (q.1, e) h0 (by rw [List.getElem?_append_right (by omega), Nat.add_sub_cancel_left, List.getElem?_append_left hl]; exact hj) rfl
        omega
      · have := (hP k q h0).lt
        omega
theorem q_callIS {y : MethodName} {bytes : ByteArray} {maxL n index ci q0 b : Nat} {ret : Option FieldType} {rm : Room} {As : List Value} {r : Int32} {fs : List Value} {T : u_T} {N : Nat} {C : String}
    (hx : p.tables.exec = Jvm.exec) (hb : c.code = cc) (hml : c.maxLocals = nL) (hown : s.vm.findClass own = some m.cls) (hT : q_Tb s) (hK : va_K D vwCl [(cA, .int)] s) (hP : va_P D vwCl ws H) (hD : va_D A ws) (hS : va_S A H0 H locs) (hA : ∀ q : Nat, H0.size ≤ q → A q)
    (hM : q_CI l y [Cond.code y bytes maxL ret] rm D cA (.ref b :: As) wc r w1) (km : q_okM y bytes maxL ret n) (kl : q_ok (.methodLink own index y)) (hwc : wc[q0]? = some (b, .inr (ci, fs))) (hc : vwCl[ci]? = some (C, T, N)) (hyc : y.cls = C)
    (pre suf : va_W) (h1 : ws = pre ++ (wc ++ suf)) (h2 : pre ++ (w1 ++ suf) = ws1) (hadr : w1.map Prod.fst = wc.map Prod.fst) (hl : lv_has ls nL lv) (hlen : As.length = n) (hst : st = As.reverse ++ .ref b :: rest) (hw : (rest.map fun v => v.category).sum ≤ 8)
    (hR : (rm.cells = 0 ∧ rm.slots = 0) ∧ rm.frames + 1 ≤ R.frames ∧ 8 + (maxL + 11) + rm.locals ≤ R.locals) (hf : cells ≤ R.cells ∧ slots ≤ R.slots) (hdg : decode cc pc = .ok (.invokevirtual index, 3))
    (kk : ∀ (H1 : Heap) (locs1 : List Loc), va_P D vwCl ws1 H1 → va_D A ws1 → va_S A H0 H1 locs1 → W p l e R s m args below meth c H1 locs1 cells slots Q (F0 m (pc + 3) ls (.int r :: rest))) : W p l e R s m args below meth c H locs cells slots Q (F0 m pc ls st) := by
  subst h1
  subst h2
  obtain ⟨k1, k2, k3, k4, k5, k6⟩ := km
  have hPc : va_P D vwCl wc H := q_mid hP
  have hDc : va_D A wc := q_midD hD
  have hF := q_freeW hDc hS hA
  refine va_calli (va_runV (As := As) (rest := rest) (Ts := []) ⟨hx, hb, hml, hown, fun _ h => absurd h List.not_mem_nil⟩ (hM H.size) (C := y.cls) ⟨q_cb hT k1 k2 k5 k6 kl hR.1.1 hR.1.2 hR.2, hT.use k3 args, hT.use k4 args⟩ ⟨q_blind, ?_, fun U hU hW => q_pc hT hK hPc hDc U hU hW⟩ rfl hlen hl.1 hst (lv_room hw) hdg hf) hS (fun q _ h => hF q h) hF (fun r' u t H1 locs1 ht hvm hpost hB hz1 hk1 hS1 => ?_)
  · obtain ⟨cell, g1, g2, g3⟩ := va_recv hK hPc hc hwc
    exact ⟨cell, g1, g2, by rw [hyc]; exact g3⟩
  · subst hpost
    obtain ⟨f1, f2⟩ := q_frameS hP hD hadr hk1 (ht ▸ hB)
    exact kk H1 locs1 f1 f2 hS1
theorem q_callVS {y : MethodName} {bytes : ByteArray} {maxL n index ci q0 b : Nat} {ret : Option FieldType} {rm : Room} {As : List Value} {fs : List Value} {T : u_T} {N : Nat} {C : String}
    (hx : p.tables.exec = Jvm.exec) (hb : c.code = cc) (hml : c.maxLocals = nL) (hown : s.vm.findClass own = some m.cls) (hT : q_Tb s) (hK : va_K D vwCl [(cA, .int)] s) (hP : va_P D vwCl ws H) (hD : va_D A ws) (hS : va_S A H0 H locs) (hA : ∀ q : Nat, H0.size ≤ q → A q)
    (hM : q_CV l y [Cond.code y bytes maxL ret] rm D cA (.ref b :: As) wc w1) (km : q_okM y bytes maxL ret n) (kl : q_ok (.methodLink own index y)) (hwc : wc[q0]? = some (b, .inr (ci, fs))) (hc : vwCl[ci]? = some (C, T, N)) (hyc : y.cls = C)
    (pre suf : va_W) (h1 : ws = pre ++ (wc ++ suf)) (h2 : pre ++ (w1 ++ suf) = ws1) (hadr : w1.map Prod.fst = wc.map Prod.fst) (hl : lv_has ls nL lv) (hlen : As.length = n) (hst : st = As.reverse ++ .ref b :: rest) (hw : (rest.map fun v => v.category).sum ≤ 8)
    (hR : (rm.cells = 0 ∧ rm.slots = 0) ∧ rm.frames + 1 ≤ R.frames ∧ 8 + (maxL + 11) + rm.locals ≤ R.locals) (hf : cells ≤ R.cells ∧ slots ≤ R.slots) (hdg : decode cc pc = .ok (.invokevirtual index, 3))
    (kk : ∀ (H1 : Heap) (locs1 : List Loc), va_P D vwCl ws1 H1 → va_D A ws1 → va_S A H0 H1 locs1 → W p l e R s m args below meth c H1 locs1 cells slots Q (F0 m (pc + 3) ls rest)) : W p l e R s m args below meth c H locs cells slots Q (F0 m pc ls st) := by
  subst h1
  subst h2
  obtain ⟨k1, k2, k3, k4, k5, k6⟩ := km
  have hPc : va_P D vwCl wc H := q_mid hP
  have hDc : va_D A wc := q_midD hD
  have hF := q_freeW hDc hS hA
  refine va_callv (va_runV (As := As) (rest := rest) (Ts := []) ⟨hx, hb, hml, hown, fun _ h => absurd h List.not_mem_nil⟩ (hM H.size) (C := y.cls) ⟨q_cb hT k1 k2 k5 k6 kl hR.1.1 hR.1.2 hR.2, hT.use k3 args, hT.use k4 args⟩ ⟨q_blind, ?_, fun U hU hW => q_pc hT hK hPc hDc U hU hW⟩ rfl hlen hl.1 hst (lv_room hw) hdg hf) hS (fun q _ h => hF q h) hF (fun u t H1 locs1 ht hvm hpost hB hz1 hk1 hS1 => ?_)
  · obtain ⟨cell, g1, g2, g3⟩ := va_recv hK hPc hc hwc
    exact ⟨cell, g1, g2, by rw [hyc]; exact g3⟩
  · obtain ⟨f1, f2⟩ := q_frameS hP hD hadr hk1 (ht ▸ hB)
    exact kk H1 locs1 f1 f2 hS1
end QX
end
section
abbrev prW (cA : ClassId) (q a b n : Nat) (f : Nat → Int32) : va_W := [(q, .inr (1, [.ref a])), (a, .inr (3, [.ref b])), (b, .inl (cA, n, .inl f))]
/-- a set by bits has a number -/
def hasB (x y : Int32) : Bool := decide (¬ ((x >>> (y &&& 31)) &&& nI 1) = 0)
theorem hasB_t {x y : Int32} (h : ¬ ((x >>> (y &&& 31)) &&& nI 1) = 0) : hasB x y = true := decide_eq_true h
theorem hasB_f {x y : Int32} (h : ((x >>> (y &&& 31)) &&& nI 1) = 0) : hasB x y = false := decide_eq_false (fun z => z h)
/-- a number goes in, or out -/
def bitS (is : Bool) (x y : Int32) : Int32 := bif is then x ||| (nI 1 <<< (y &&& 31)) else x &&& ((nI 1 <<< (y &&& 31)) ^^^ (-1))
/-- of two, both ways -/
def tellF (is : Bool) (f : Nat → Int32) (j k : Nat) : Nat → Int32 := upd (upd f j (bitS is (f j) (nI k))) k (bitS is (upd f j (bitS is (f j) (nI k)) k) (nI j))
abbrev rm_X1_has : Room := { frames := 1, cells := 0, slots := 0, locals := 21 }
set_option maxRecDepth 100000 in
set_option maxHeartbeats 4000000 in
theorem c_X1_has (l : Launch) (D : va_G) (cA : ClassId) (q a b n : Nat) (f : Nat → Int32) (i y : Int32) (hn : n ≤ 1000) : q_CI l yX1_has [Cond.code yX1_has cX1_has 3 (some .boolean)] rm_X1_has D cA [.ref q, .int i, .int y] (prW cA q a b n f) (q_b (hasB (rAt n f i) y)) (prW cA q a b n f) := by
  refine q_startI RX1 (by decide +kernel) rfl (Nat.le_of_ble_eq_true rfl) ?_
  intro p e s m below meth c A args H locs ls hx hb hr hml hown hT hlk hP hK hD hA hS hl
  have hl : lv_has ls 3 [(0, .ref q), (1, .int i), (2, .int y)] := hl
  refine lv_aload_n hx hb dX1_has_0 rfl (lv_at hl 0 rfl) ?_
  refine q_get hx hb hT hown hK hP kw_X1 0 rfl rfl 0 (by decide) kf_X1_12 rfl (v := .ref a) rfl dX1_has_1 ?_
  refine lv_iload_n hx hb dX1_has_4 rfl (lv_at hl 1 rfl) ?_
  refine q_callI (As := [.int i]) (r := rAt n f i) (wc := rowW cA a b n f) (w1 := rowW cA a b n f) (ws1 := prW cA q a b n f) hx hb hml hown hT hK hP hD hS hA (c_X3_at l D cA a b n f i (by omega)) k_X3_at kl_X1_18 (q0 := 0) rfl rfl rfl [1, 2] rfl rfl rfl rfl hl rfl rfl (Nat.le_of_ble_eq_true rfl) ⟨⟨rfl, rfl⟩, Nat.le_of_ble_eq_true rfl, Nat.le_of_ble_eq_true rfl⟩ ⟨Nat.zero_le _, Nat.zero_le _⟩ dX1_has_5 (fun H locs hP hD hS => ?_)
  refine lv_iload_n hx hb dX1_has_8 rfl (lv_at hl 2 rfl) ?_
  refine lv_ishr hx hb dX1_has_9 ?_
  refine lv_iconst (v := nI 1) hx hb dX1_has_10 (by decide +kernel) ?_
  refine lv_iand hx hb dX1_has_11 ?_
  refine lv_if_eq (tgt := 19) hx hb dX1_has_12 (by decide) (fun c_12 => ?_) (fun c_12 => ?_)
  · refine lv_iconst (v := nI 0) hx hb dX1_has_19 (by decide +kernel) ?_
    exact q_zret hx hb hr hlk (Or.inl rfl) (by first | exact q_bt (hasB_t c_12) | exact q_bf (hasB_f c_12)) hP hS dX1_has_20
  · refine lv_iconst (v := nI 1) hx hb dX1_has_15 (by decide +kernel) ?_
    refine lv_goto (tgt := 20) hx hb dX1_has_16 (by decide) ?_
    exact q_zret hx hb hr hlk (Or.inr rfl) (by first | exact q_bt (hasB_t c_12) | exact q_bf (hasB_f c_12)) hP hS dX1_has_20
abbrev rm_X1_hasN : Room := { frames := 1, cells := 0, slots := 0, locals := 21 }
set_option maxRecDepth 100000 in
set_option maxHeartbeats 4000000 in
theorem c_X1_hasN (l : Launch) (D : va_G) (cA : ClassId) (q a b n : Nat) (f : Nat → Int32) (k : Nat) (y : Int32) (hk : k < n) (hn : n ≤ 1000) : q_CI l yX1_has [Cond.code yX1_has cX1_has 3 (some .boolean)] rm_X1_hasN D cA [.ref q, .int (nI k), .int y] (prW cA q a b n f) (q_b (hasB (f k) y)) (prW cA q a b n f) := by
  refine q_startI RX1 (by decide +kernel) rfl (Nat.le_of_ble_eq_true rfl) ?_
  intro p e s m below meth c A args H locs ls hx hb hr hml hown hT hlk hP hK hD hA hS hl
  have hl : lv_has ls 3 [(0, .ref q), (1, .int (nI k)), (2, .int y)] := hl
  refine lv_aload_n hx hb dX1_has_0 rfl (lv_at hl 0 rfl) ?_
  refine q_get hx hb hT hown hK hP kw_X1 0 rfl rfl 0 (by decide) kf_X1_12 rfl (v := .ref a) rfl dX1_has_1 ?_
  refine lv_iload_n hx hb dX1_has_4 rfl (lv_at hl 1 rfl) ?_
  refine q_callI (As := [.int (nI k)]) (r := f k) (wc := rowW cA a b n f) (w1 := rowW cA a b n f) (ws1 := prW cA q a b n f) hx hb hml hown hT hK hP hD hS hA (c_X3_atN l D cA a b n f k (by omega) (by omega)) k_X3_at kl_X1_18 (q0 := 0) rfl rfl rfl [1, 2] rfl rfl rfl rfl hl rfl rfl (Nat.le_of_ble_eq_true rfl) ⟨⟨rfl, rfl⟩, Nat.le_of_ble_eq_true rfl, Nat.le_of_ble_eq_true rfl⟩ ⟨Nat.zero_le _, Nat.zero_le _⟩ dX1_has_5 (fun H locs hP hD hS => ?_)
  refine lv_iload_n hx hb dX1_has_8 rfl (lv_at hl 2 rfl) ?_
  refine lv_ishr hx hb dX1_has_9 ?_
  refine lv_iconst (v := nI 1) hx hb dX1_has_10 (by decide +kernel) ?_
  refine lv_iand hx hb dX1_has_11 ?_
  refine lv_if_eq (tgt := 19) hx hb dX1_has_12 (by decide) (fun c_12 => ?_) (fun c_12 => ?_)
  · refine lv_iconst (v := nI 0) hx hb dX1_has_19 (by decide +kernel) ?_
    exact q_zret hx hb hr hlk (Or.inl rfl) (by first | exact q_bt (hasB_t c_12) | exact q_bf (hasB_f c_12)) hP hS dX1_has_20
  · refine lv_iconst (v := nI 1) hx hb dX1_has_15 (by decide +kernel) ?_
    refine lv_goto (tgt := 20) hx hb dX1_has_16 (by decide) ?_
    exact q_zret hx hb hr hlk (Or.inr rfl) (by first | exact q_bt (hasB_t c_12) | exact q_bf (hasB_f c_12)) hP hS dX1_has_20
abbrev rm_X1_mark : Room := { frames := 1, cells := 0, slots := 0, locals := 22 }
set_option maxRecDepth 100000 in
set_option maxHeartbeats 4000000 in
theorem c_X1_mark (l : Launch) (D : va_G) (cA : ClassId) (q a b n : Nat) (f : Nat → Int32) (k : Nat) (y : Int32) (is : Bool) (hk : k < n) (hn : n ≤ 1000) : q_CV l yX1_mark [Cond.code yX1_mark cX1_mark 5 none] rm_X1_mark D cA [.ref q, .int (nI k), .int y, .int (q_b is)] (prW cA q a b n f) (prW cA q a b n (upd f k (bitS is (f k) y))) := by
  refine q_startV RX1 (by decide +kernel) rfl (Nat.le_of_ble_eq_true rfl) ?_
  intro p e s m below meth c A args H locs ls hx hb hr hml hown hT hlk hP hK hD hA hS hl
  have hl : lv_has ls 5 [(0, .ref q), (1, .int (nI k)), (2, .int y), (3, .int (q_b is))] := hl
  have zqJ41 : ∀ (H : Heap) (locs : List Loc) (ls : Array Slot), va_P D vwCl (prW cA q a b n f) H → va_D A (prW cA q a b n f) → va_S A s.heap H locs → lv_has ls 5 [] → W p l e rm_X1_mark s m args below meth c H locs 0 0 (q_GV D (prW cA q a b n (upd f k (bitS is (f k) y))) A below args s) (F0 m 41 ls [.int (bitS is (f k) y), .int (nI k), .ref a]) := by
    intro   H locs ls hP hD hS hl
    refine q_callV (As := [.int (nI k), .int (bitS is (f k) y)]) (wc := rowW cA a b n f) (w1 := rowW cA a b n (upd f k (bitS is (f k) y))) (ws1 := prW cA q a b n (upd f k (bitS is (f k) y))) hx hb hml hown hT hK hP hD hS hA (c_X3_putN l D cA a b n f k (bitS is (f k) y) (by omega) (by omega)) k_X3_put kl_X1_30 (q0 := 0) rfl rfl rfl [1, 2] rfl rfl rfl rfl hl rfl rfl (Nat.le_of_ble_eq_true rfl) ⟨⟨rfl, rfl⟩, Nat.le_of_ble_eq_true rfl, Nat.le_of_ble_eq_true rfl⟩ ⟨Nat.zero_le _, Nat.zero_le _⟩ dX1_mark_41 (fun H locs hP hD hS => ?_)
    exact q_vret hx hb hr hlk hP hS dX1_mark_44
  refine lv_iconst (v := nI 1) hx hb dX1_mark_0 (by decide +kernel) ?_
  refine lv_iload_n hx hb dX1_mark_1 rfl (lv_at hl 2 rfl) ?_
  refine lv_ishl hx hb dX1_mark_2 ?_
  refine lv_istore (lv' := [(4, .int ((nI 1) <<< (y &&& 31))), (0, .ref q), (1, .int (nI k)), (2, .int y), (3, .int (q_b is))]) hx hb dX1_mark_3 hl (by decide) rfl (fun ls hl => ?_)
  refine lv_aload_n hx hb dX1_mark_5 rfl (lv_at hl 1 rfl) ?_
  refine q_get hx hb hT hown hK hP kw_X1 0 rfl rfl 0 (by decide) kf_X1_12 rfl (v := .ref a) rfl dX1_mark_6 ?_
  refine lv_iload_n hx hb dX1_mark_9 rfl (lv_at hl 2 rfl) ?_
  refine lv_iload_n hx hb dX1_mark_10 rfl (lv_at hl 4 rfl) ?_
  refine lv_if_eq (tgt := 28) hx hb dX1_mark_11 (by decide) (fun c_11 => ?_) (fun c_11 => ?_)
  · have c_11 := q_b0e c_11
    refine lv_aload_n hx hb dX1_mark_28 rfl (lv_at hl 1 rfl) ?_
    refine q_get hx hb hT hown hK hP kw_X1 0 rfl rfl 0 (by decide) kf_X1_12 rfl (v := .ref a) rfl dX1_mark_29 ?_
    refine lv_iload_n hx hb dX1_mark_32 rfl (lv_at hl 2 rfl) ?_
    refine q_callI (As := [.int (nI k)]) (r := f k) (wc := rowW cA a b n f) (w1 := rowW cA a b n f) (ws1 := prW cA q a b n f) hx hb hml hown hT hK hP hD hS hA (c_X3_atN l D cA a b n f k (by omega) (by omega)) k_X3_at kl_X1_18 (q0 := 0) rfl rfl rfl [1, 2] rfl rfl rfl rfl hl rfl rfl (Nat.le_of_ble_eq_true rfl) ⟨⟨rfl, rfl⟩, Nat.le_of_ble_eq_true rfl, Nat.le_of_ble_eq_true rfl⟩ ⟨Nat.zero_le _, Nat.zero_le _⟩ dX1_mark_33 (fun H locs hP hD hS => ?_)
    refine lv_iload hx hb dX1_mark_36 (lv_at hl 0 rfl) ?_
    refine lv_iconst (v := (-1)) hx hb dX1_mark_38 (by decide +kernel) ?_
    refine lv_ixor hx hb dX1_mark_39 ?_
    refine lv_iand hx hb dX1_mark_40 ?_
    refine q_top (y := bitS is (f k) y) (by rw [c_11]; rfl) ?_
    exact zqJ41   _ _ _ hP hD hS (lv_sub hl [] rfl)
  · have c_11 := q_b0n c_11
    refine lv_aload_n hx hb dX1_mark_14 rfl (lv_at hl 1 rfl) ?_
    refine q_get hx hb hT hown hK hP kw_X1 0 rfl rfl 0 (by decide) kf_X1_12 rfl (v := .ref a) rfl dX1_mark_15 ?_
    refine lv_iload_n hx hb dX1_mark_18 rfl (lv_at hl 2 rfl) ?_
    refine q_callI (As := [.int (nI k)]) (r := f k) (wc := rowW cA a b n f) (w1 := rowW cA a b n f) (ws1 := prW cA q a b n f) hx hb hml hown hT hK hP hD hS hA (c_X3_atN l D cA a b n f k (by omega) (by omega)) k_X3_at kl_X1_18 (q0 := 0) rfl rfl rfl [1, 2] rfl rfl rfl rfl hl rfl rfl (Nat.le_of_ble_eq_true rfl) ⟨⟨rfl, rfl⟩, Nat.le_of_ble_eq_true rfl, Nat.le_of_ble_eq_true rfl⟩ ⟨Nat.zero_le _, Nat.zero_le _⟩ dX1_mark_19 (fun H locs hP hD hS => ?_)
    refine lv_iload hx hb dX1_mark_22 (lv_at hl 0 rfl) ?_
    refine lv_ior hx hb dX1_mark_24 ?_
    refine lv_goto (tgt := 41) hx hb dX1_mark_25 (by decide) ?_
    refine q_top (y := bitS is (f k) y) (by rw [c_11]; rfl) ?_
    exact zqJ41   _ _ _ hP hD hS (lv_sub hl [] rfl)
abbrev rm_X1_tell : Room := { frames := 2, cells := 0, slots := 0, locals := 46 }
set_option maxRecDepth 100000 in
set_option maxHeartbeats 4000000 in
theorem c_X1_tell (l : Launch) (D : va_G) (cA : ClassId) (q a b n : Nat) (f : Nat → Int32) (j k : Nat) (is : Bool) (hj : j < n) (hk : k < n) (hn : n ≤ 1000) : q_CI l yX1_tell [Cond.code yX1_tell cX1_tell 5 (some .boolean)] rm_X1_tell D cA [.ref q, .int (nI j), .int (nI k), .int (q_b is)] (prW cA q a b n f) (q_b (hasB (f j) (nI k))) (prW cA q a b n (tellF is f j k)) := by
  refine q_startI RX1 (by decide +kernel) rfl (Nat.le_of_ble_eq_true rfl) ?_
  intro p e s m below meth c A args H locs ls hx hb hr hml hown hT hlk hP hK hD hA hS hl
  have hl : lv_has ls 5 [(0, .ref q), (1, .int (nI j)), (2, .int (nI k)), (3, .int (q_b is))] := hl
  refine lv_aload_n hx hb dX1_tell_0 rfl (lv_at hl 0 rfl) ?_
  refine lv_iload_n hx hb dX1_tell_1 rfl (lv_at hl 1 rfl) ?_
  refine lv_iload_n hx hb dX1_tell_2 rfl (lv_at hl 2 rfl) ?_
  refine q_callIW (As := [.int (nI j), .int (nI k)]) (r := q_b (hasB (f j) (nI k))) (w1 := prW cA q a b n f) hx hb hml hown hT hK hP hD hS hA (c_X1_hasN l D cA q a b n f j (nI k) (by omega) (by omega)) k_X1_has kl_X1_22 (q0 := 0) rfl rfl rfl rfl hl rfl rfl (Nat.le_of_ble_eq_true rfl) ⟨⟨rfl, rfl⟩, Nat.le_of_ble_eq_true rfl, Nat.le_of_ble_eq_true rfl⟩ ⟨Nat.zero_le _, Nat.zero_le _⟩ dX1_tell_3 (fun H locs hP hD hS => ?_)
  refine lv_istore (lv' := [(4, .int (q_b (hasB (f j) (nI k)))), (0, .ref q), (1, .int (nI j)), (2, .int (nI k)), (3, .int (q_b is))]) hx hb dX1_tell_6 hl (by decide) rfl (fun ls hl => ?_)
  refine lv_aload_n hx hb dX1_tell_8 rfl (lv_at hl 1 rfl) ?_
  refine lv_iload_n hx hb dX1_tell_9 rfl (lv_at hl 2 rfl) ?_
  refine lv_iload_n hx hb dX1_tell_10 rfl (lv_at hl 3 rfl) ?_
  refine lv_iload_n hx hb dX1_tell_11 rfl (lv_at hl 4 rfl) ?_
  refine q_callVW (As := [.int (nI j), .int (nI k), .int (q_b is)]) (w1 := prW cA q a b n (upd f j (bitS is (f j) (nI k)))) hx hb hml hown hT hK hP hD hS hA (c_X1_mark l D cA q a b n f j (nI k) is (by omega) (by omega)) k_X1_mark kl_X1_26 (q0 := 0) rfl rfl rfl rfl hl rfl rfl (Nat.le_of_ble_eq_true rfl) ⟨⟨rfl, rfl⟩, Nat.le_of_ble_eq_true rfl, Nat.le_of_ble_eq_true rfl⟩ ⟨Nat.zero_le _, Nat.zero_le _⟩ dX1_tell_12 (fun H locs hP hD hS => ?_)
  refine lv_aload_n hx hb dX1_tell_15 rfl (lv_at hl 1 rfl) ?_
  refine lv_iload_n hx hb dX1_tell_16 rfl (lv_at hl 3 rfl) ?_
  refine lv_iload_n hx hb dX1_tell_17 rfl (lv_at hl 2 rfl) ?_
  refine lv_iload_n hx hb dX1_tell_18 rfl (lv_at hl 4 rfl) ?_
  refine q_callVW (As := [.int (nI k), .int (nI j), .int (q_b is)]) (w1 := prW cA q a b n (upd (upd f j (bitS is (f j) (nI k))) k (bitS is ((upd f j (bitS is (f j) (nI k))) k) (nI j)))) hx hb hml hown hT hK hP hD hS hA (c_X1_mark l D cA q a b n (upd f j (bitS is (f j) (nI k))) k (nI j) is (by omega) (by omega)) k_X1_mark kl_X1_26 (q0 := 0) rfl rfl rfl rfl hl rfl rfl (Nat.le_of_ble_eq_true rfl) ⟨⟨rfl, rfl⟩, Nat.le_of_ble_eq_true rfl, Nat.le_of_ble_eq_true rfl⟩ ⟨Nat.zero_le _, Nat.zero_le _⟩ dX1_tell_19 (fun H locs hP hD hS => ?_)
  refine lv_iload hx hb dX1_tell_22 (lv_at hl 0 rfl) ?_
  exact q_zret hx hb hr hlk (q_b_or _) (by rfl) (va_cast' hP (by rfl)) hS dX1_tell_24
end
section
/-- v is put for w in the first k places -/
def repl (f : Nat → Int32) (v w : Int32) (k : Nat) : Nat → Int32 := fun j => if j < k ∧ f j = v then w else f j
theorem repl_0 {f : Nat → Int32} {v w : Int32} : repl f v w 0 = f := by funext j; simp [repl]
theorem repl_k {f : Nat → Int32} {v w : Int32} {k : Nat} : repl f v w k k = f k := by simp [repl]
theorem repl_t {f : Nat → Int32} {v w : Int32} {k : Nat} (h : f k = v) : upd (repl f v w k) k w = repl f v w (k + 1) := by
  funext j
  simp only [upd, repl]
  by_cases hj : j = k
  · subst hj; simp [h]
  · simp only [hj, if_false]
    have : (j < k + 1 ∧ f j = v) ↔ (j < k ∧ f j = v) := ⟨fun z => ⟨by omega, z.2⟩, fun z => ⟨by omega, z.2⟩⟩
    simp only [this]
theorem repl_f {f : Nat → Int32} {v w : Int32} {k : Nat} (h : ¬ f k = v) : repl f v w k = repl f v w (k + 1) := by
  funext j
  simp only [repl]
  have : (j < k + 1 ∧ f j = v) ↔ (j < k ∧ f j = v) := ⟨fun z => ⟨by
    rcases Nat.lt_or_ge j k with q | q
    · exact q
    · have : j = k := by omega
      subst this
      exact absurd z.2 h, z.2⟩, fun z => ⟨by omega, z.2⟩⟩
  simp only [this]
theorem q_minN {a b : Nat} (ha : a < 2147483648) (hb : b < 2147483648) : (if nI b < nI a then nI b else nI a) = nI (min a b) := by
  by_cases h : b < a
  · rw [if_pos (nI_lt h ha), Nat.min_eq_right (by omega)]
  · rw [if_neg (nI_nlt (by omega) hb), Nat.min_eq_left (by omega)]
theorem q_maxN {a b : Nat} (ha : a < 2147483648) (hb : b < 2147483648) : (if nI a < nI b then nI b else nI a) = nI (max a b) := by
  by_cases h : a < b
  · rw [if_pos (nI_lt h hb), Nat.max_eq_right (by omega)]
  · rw [if_neg (nI_nlt (by omega) ha), Nat.max_eq_left (by omega)]
abbrev rm_X2_made : Room := { frames := 0, cells := 0, slots := 0, locals := 0 }
set_option maxRecDepth 100000 in
set_option maxHeartbeats 4000000 in
theorem c_X2_made (l : Launch) (D : va_G) (cA : ClassId) (ad : Nat → Nat) (g : Nat → Nat → Int32) (z : Nat → Nat)   : q_CI l yX2_made [Cond.code yX2_made cX2_made 1 (some .int)] rm_X2_made D cA [.ref (ad 72)] (psW cA ad g z) (nI (z 2)) (psW cA ad g z) := by
  refine q_startI RX2 (by decide +kernel) rfl (Nat.le_of_ble_eq_true rfl) ?_
  intro p e s m below meth c A args H locs ls hx hb hr hml hown hT hlk hP hK hD hA hS hl
  have hl : lv_has ls 1 [(0, .ref (ad 72))] := hl
  refine lv_aload_n hx hb dX2_made_0 rfl (lv_at hl 0 rfl) ?_
  refine q_get hx hb hT hown hK hP kw_X2 0 rfl rfl 2 (by decide) kf_X2_23 rfl (v := .int (nI (z 2))) rfl dX2_made_1 ?_
  exact q_iret hx hb hr hlk (by rfl) hP hS dX2_made_4
abbrev rm_X2_ownerOf : Room := { frames := 1, cells := 0, slots := 0, locals := 21 }
set_option maxRecDepth 100000 in
set_option maxHeartbeats 4000000 in
theorem c_X2_ownerOf (l : Launch) (D : va_G) (cA : ClassId) (ad : Nat → Nat) (g : Nat → Nat → Int32) (z : Nat → Nat) (k : Nat) (hk : k < 16) : q_CI l yX2_ownerOf [Cond.code yX2_ownerOf cX2_ownerOf 2 (some .int)] rm_X2_ownerOf D cA [.ref (ad 72), .int (nI k)] (psW cA ad g z) ((g 22) k) (psW cA ad g z) := by
  refine q_startI RX2 (by decide +kernel) rfl (Nat.le_of_ble_eq_true rfl) ?_
  intro p e s m below meth c A args H locs ls hx hb hr hml hown hT hlk hP hK hD hA hS hl
  have hl : lv_has ls 2 [(0, .ref (ad 72)), (1, .int (nI k))] := hl
  refine lv_aload_n hx hb dX2_ownerOf_0 rfl (lv_at hl 0 rfl) ?_
  refine q_get hx hb hT hown hK hP kw_X2 0 rfl rfl 0 (by decide) kf_X2_14 rfl (v := .ref (ad 22)) rfl dX2_ownerOf_1 ?_
  refine lv_iload_n hx hb dX2_ownerOf_4 rfl (lv_at hl 1 rfl) ?_
  refine q_callI (As := [.int (nI k)]) (r := g 22 k) (wc := rowW cA (ad 22) (ad 52) 16 (g 22)) (w1 := rowW cA (ad 22) (ad 52) 16 (g 22)) (ws1 := psW cA ad g z) hx hb hml hown hT hK hP hD hS hA (c_X3_atN l D cA (ad 22) (ad 52) 16 (g 22) k (by omega) (by omega)) k_X3_at kl_X2_27 (q0 := 0) rfl rfl rfl [1, 2] rfl rfl rfl rfl hl rfl rfl (Nat.le_of_ble_eq_true rfl) ⟨⟨rfl, rfl⟩, Nat.le_of_ble_eq_true rfl, Nat.le_of_ble_eq_true rfl⟩ ⟨Nat.zero_le _, Nat.zero_le _⟩ dX2_ownerOf_5 (fun H locs hP hD hS => ?_)
  exact q_iret hx hb hr hlk (by rfl) hP hS dX2_ownerOf_8
abbrev rm_X2_leadOf : Room := { frames := 1, cells := 0, slots := 0, locals := 21 }
set_option maxRecDepth 100000 in
set_option maxHeartbeats 4000000 in
theorem c_X2_leadOf (l : Launch) (D : va_G) (cA : ClassId) (ad : Nat → Nat) (g : Nat → Nat → Int32) (z : Nat → Nat) (k : Nat) (hk : k < 40) : q_CI l yX2_leadOf [Cond.code yX2_leadOf cX2_leadOf 2 (some .int)] rm_X2_leadOf D cA [.ref (ad 72), .int (nI k)] (psW cA ad g z) ((g 23) k) (psW cA ad g z) := by
  refine q_startI RX2 (by decide +kernel) rfl (Nat.le_of_ble_eq_true rfl) ?_
  intro p e s m below meth c A args H locs ls hx hb hr hml hown hT hlk hP hK hD hA hS hl
  have hl : lv_has ls 2 [(0, .ref (ad 72)), (1, .int (nI k))] := hl
  refine lv_aload_n hx hb dX2_leadOf_0 rfl (lv_at hl 0 rfl) ?_
  refine q_get hx hb hT hown hK hP kw_X2 0 rfl rfl 1 (by decide) kf_X2_20 rfl (v := .ref (ad 23)) rfl dX2_leadOf_1 ?_
  refine lv_iload_n hx hb dX2_leadOf_4 rfl (lv_at hl 1 rfl) ?_
  refine q_callI (As := [.int (nI k)]) (r := g 23 k) (wc := rowW cA (ad 23) (ad 53) 40 (g 23)) (w1 := rowW cA (ad 23) (ad 53) 40 (g 23)) (ws1 := psW cA ad g z) hx hb hml hown hT hK hP hD hS hA (c_X3_atN l D cA (ad 23) (ad 53) 40 (g 23) k (by omega) (by omega)) k_X3_at kl_X2_27 (q0 := 0) rfl rfl rfl [3, 4] rfl rfl rfl rfl hl rfl rfl (Nat.le_of_ble_eq_true rfl) ⟨⟨rfl, rfl⟩, Nat.le_of_ble_eq_true rfl, Nat.le_of_ble_eq_true rfl⟩ ⟨Nat.zero_le _, Nat.zero_le _⟩ dX2_leadOf_5 (fun H locs hP hD hS => ?_)
  exact q_iret hx hb hr hlk (by rfl) hP hS dX2_leadOf_8
abbrev rm_X2_moveToNew : Room := { frames := 1, cells := 0, slots := 0, locals := 22 }
set_option maxRecDepth 100000 in
set_option maxHeartbeats 4000000 in
theorem c_X2_moveToNew (l : Launch) (D : va_G) (cA : ClassId) (ad : Nat → Nat) (g : Nat → Nat → Int32) (z : Nat → Nat) (k : Nat) (hk : k < 16) (hz : (z 2) < 40) : q_CI l yX2_moveToNew [Cond.code yX2_moveToNew cX2_moveToNew 3 (some .int)] rm_X2_moveToNew D cA [.ref (ad 72), .int (nI k)] (psW cA ad g z) (nI (z 2)) (psW cA ad (gs (gs g 22 (upd (g 22) k (nI (z 2)))) 23 (upd (g 23) (z 2) (nI (z 2)))) (zs z 2 ((z 2) + 1))) := by
  refine q_startI RX2 (by decide +kernel) rfl (Nat.le_of_ble_eq_true rfl) ?_
  intro p e s m below meth c A args H locs ls hx hb hr hml hown hT hlk hP hK hD hA hS hl
  have hl : lv_has ls 3 [(0, .ref (ad 72)), (1, .int (nI k))] := hl
  refine lv_aload_n hx hb dX2_moveToNew_0 rfl (lv_at hl 0 rfl) ?_
  refine q_get hx hb hT hown hK hP kw_X2 0 rfl rfl 2 (by decide) kf_X2_23 rfl (v := .int (nI (z 2))) rfl dX2_moveToNew_1 ?_
  refine lv_istore_n (lv' := [(2, .int (nI (z 2))), (0, .ref (ad 72)), (1, .int (nI k))]) hx hb dX2_moveToNew_4 rfl hl (by decide) rfl (fun ls hl => ?_)
  refine lv_aload_n hx hb dX2_moveToNew_5 rfl (lv_at hl 1 rfl) ?_
  refine q_get hx hb hT hown hK hP kw_X2 0 rfl rfl 1 (by decide) kf_X2_20 rfl (v := .ref (ad 23)) rfl dX2_moveToNew_6 ?_
  refine lv_iload_n hx hb dX2_moveToNew_9 rfl (lv_at hl 0 rfl) ?_
  refine lv_iload_n hx hb dX2_moveToNew_10 rfl (lv_at hl 0 rfl) ?_
  refine q_callV (As := [.int (nI (z 2)), .int (nI (z 2))]) (wc := rowW cA (ad 23) (ad 53) 40 (g 23)) (w1 := rowW cA (ad 23) (ad 53) 40 (upd (g 23) (z 2) (nI (z 2)))) (ws1 := psW cA ad (gs g 23 (upd (g 23) (z 2) (nI (z 2)))) z) hx hb hml hown hT hK hP hD hS hA (c_X3_putN l D cA (ad 23) (ad 53) 40 (g 23) (z 2) (nI (z 2)) (by omega) (by omega)) k_X3_put kl_X2_31 (q0 := 0) rfl rfl rfl [3, 4] rfl rfl rfl rfl hl rfl rfl (Nat.le_of_ble_eq_true rfl) ⟨⟨rfl, rfl⟩, Nat.le_of_ble_eq_true rfl, Nat.le_of_ble_eq_true rfl⟩ ⟨Nat.zero_le _, Nat.zero_le _⟩ dX2_moveToNew_11 (fun H locs hP hD hS => ?_)
  obtain ⟨nF11_23, enF11_23⟩ : ∃ y : Nat → Int32, y = upd (g 23) (z 2) (nI (z 2)) := ⟨_, rfl⟩
  have hP : va_P D vwCl (psW cA ad (gs g 23 nF11_23) z) H := by rw [enF11_23]; exact hP
  have hD : va_D A (psW cA ad (gs g 23 nF11_23) z) := by rw [enF11_23]; exact hD
  refine lv_aload_n hx hb dX2_moveToNew_14 rfl (lv_at hl 1 rfl) ?_
  refine q_get hx hb hT hown hK hP kw_X2 0 rfl rfl 0 (by decide) kf_X2_14 rfl (v := .ref (ad 22)) rfl dX2_moveToNew_15 ?_
  refine lv_iload_n hx hb dX2_moveToNew_18 rfl (lv_at hl 2 rfl) ?_
  refine lv_iload_n hx hb dX2_moveToNew_19 rfl (lv_at hl 0 rfl) ?_
  refine q_callV (As := [.int (nI k), .int (nI (z 2))]) (wc := rowW cA (ad 22) (ad 52) 16 (g 22)) (w1 := rowW cA (ad 22) (ad 52) 16 (upd (g 22) k (nI (z 2)))) (ws1 := psW cA ad (gs (gs g 22 (upd (g 22) k (nI (z 2)))) 23 nF11_23) z) hx hb hml hown hT hK hP hD hS hA (c_X3_putN l D cA (ad 22) (ad 52) 16 (g 22) k (nI (z 2)) (by omega) (by omega)) k_X3_put kl_X2_31 (q0 := 0) rfl rfl rfl [1, 2] rfl rfl rfl rfl hl rfl rfl (Nat.le_of_ble_eq_true rfl) ⟨⟨rfl, rfl⟩, Nat.le_of_ble_eq_true rfl, Nat.le_of_ble_eq_true rfl⟩ ⟨Nat.zero_le _, Nat.zero_le _⟩ dX2_moveToNew_20 (fun H locs hP hD hS => ?_)
  obtain ⟨nF20_22, enF20_22⟩ : ∃ y : Nat → Int32, y = upd (g 22) k (nI (z 2)) := ⟨_, rfl⟩
  have hP : va_P D vwCl (psW cA ad (gs (gs g 22 nF20_22) 23 nF11_23) z) H := by rw [enF20_22]; exact hP
  have hD : va_D A (psW cA ad (gs (gs g 22 nF20_22) 23 nF11_23) z) := by rw [enF20_22]; exact hD
  refine lv_aload_n hx hb dX2_moveToNew_23 rfl (lv_at hl 1 rfl) ?_
  refine lv_dup hx hb dX2_moveToNew_24 rfl ?_
  refine q_get hx hb hT hown hK hP kw_X2 0 rfl rfl 2 (by decide) kf_X2_23 rfl (v := .int (nI (z 2))) rfl dX2_moveToNew_25 ?_
  refine lv_iconst (v := nI 1) hx hb dX2_moveToNew_28 (by decide +kernel) ?_
  refine lv_iadd hx hb dX2_moveToNew_29 ?_
  refine q_top (y := nI (z 2 + 1)) (nI_add _ _) ?_
  refine q_put (ty := .int) (ws1 := psW cA ad (gs (gs g 22 nF20_22) 23 nF11_23) (zs z 2 (z 2 + 1))) hx hb hT hown hK hP hD hS kw_X2 tyX2_ok nmX2 0 rfl rfl 2 (by decide) kf_X2_23 rfl rfl (by decide +kernel) rfl rfl (Nat.le_of_ble_eq_true rfl) rfl dX2_moveToNew_30 (fun H locs hP hD hS => ?_)
  refine lv_iload_n hx hb dX2_moveToNew_33 rfl (lv_at hl 0 rfl) ?_
  rw [enF20_22] at hP hD
  rw [enF11_23] at hP hD
  exact q_iret hx hb hr hlk (by rfl) (va_cast' hP (by rfl)) hS dX2_moveToNew_34
abbrev rm_X2_unite : Room := { frames := 1, cells := 0, slots := 0, locals := 22 }
set_option maxRecDepth 100000 in
set_option maxHeartbeats 4000000 in
theorem c_X2_unite (l : Launch) (D : va_G) (cA : ClassId) (ad : Nat → Nat) (g : Nat → Nat → Int32) (z : Nat → Nat) (a : Nat) (b : Nat) (ha : a < 40) (hb : b < 40) (hz : (z 2) ≤ 40) : q_CI l yX2_unite [Cond.code yX2_unite cX2_unite 6 (some .int)] rm_X2_unite D cA [.ref (ad 72), .int (nI a), .int (nI b)] (psW cA ad g z) (nI (min a b)) (psW cA ad (gs (gs g 22 (repl (g 22) (nI (max a b)) (nI (min a b)) 16)) 23 (repl (g 23) (nI (max a b)) (nI (min a b)) (z 2))) z) := by
  refine q_startI RX2 (by decide +kernel) rfl (Nat.le_of_ble_eq_true rfl) ?_
  intro p e s m below meth c A args H locs ls hx hb hr hml hown hT hlk hP hK hD hA hS hl
  have hl : lv_has ls 6 [(0, .ref (ad 72)), (1, .int (nI a)), (2, .int (nI b))] := hl
  have zqL16 : ∀ (fu : Nat), ∀ (k : Nat), (z 2 + 1 ≤ k + fu) → (k ≤ (z 2)) → ∀ (H : Heap) (locs : List Loc) (ls : Array Slot), va_P D vwCl (psW cA ad (gs g 23 (repl (g 23) (nI (max a b)) (nI (min a b)) k)) z) H → va_D A (psW cA ad (gs g 23 (repl (g 23) (nI (max a b)) (nI (min a b)) k)) z) → va_S A s.heap H locs → lv_has ls 6 [(0, .ref (ad 72)), (1, .int (nI a)), (2, .int (nI b)), (3, .int (nI (min a b))), (4, .int (nI (max a b))), (5, .int (nI k))] → W p l e rm_X2_unite s m args below meth c H locs 0 0 (q_GI D (nI (min a b)) (psW cA ad (gs (gs g 22 (repl (g 22) (nI (max a b)) (nI (min a b)) 16)) 23 (repl (g 23) (nI (max a b)) (nI (min a b)) (z 2))) z) A below args s) (F0 m 16 ls []) := by
    intro fu
    induction fu with
    | zero =>
      intro k hfu hk H locs ls hP hD hS hl
      exfalso; omega
    | succ fu ih16 =>
      intro k hfu hk H locs ls hP hD hS hl
      have zqL58 : ∀ (fu : Nat), ∀ (k2 : Nat), (16 + 1 ≤ k2 + fu) → (k2 ≤ 16) → ((z 2) ≤ k) → ∀ (H : Heap) (locs : List Loc) (ls : Array Slot), va_P D vwCl (psW cA ad (gs (gs g 22 (repl (g 22) (nI (max a b)) (nI (min a b)) k2)) 23 (repl (g 23) (nI (max a b)) (nI (min a b)) k)) z) H → va_D A (psW cA ad (gs (gs g 22 (repl (g 22) (nI (max a b)) (nI (min a b)) k2)) 23 (repl (g 23) (nI (max a b)) (nI (min a b)) k)) z) → va_S A s.heap H locs → lv_has ls 6 [(0, .ref (ad 72)), (1, .int (nI a)), (2, .int (nI b)), (3, .int (nI (min a b))), (4, .int (nI (max a b))), (5, .int (nI k2))] → W p l e rm_X2_unite s m args below meth c H locs 0 0 (q_GI D (nI (min a b)) (psW cA ad (gs (gs g 22 (repl (g 22) (nI (max a b)) (nI (min a b)) 16)) 23 (repl (g 23) (nI (max a b)) (nI (min a b)) (z 2))) z) A below args s) (F0 m 58 ls []) := by
        intro fu
        induction fu with
        | zero =>
          intro k2 hfu hk2 hkk H locs ls hP hD hS hl
          exfalso; omega
        | succ fu ih58 =>
          intro k2 hfu hk2 hkk H locs ls hP hD hS hl
          refine lv_iload hx hb dX2_unite_58 (lv_at hl 5 rfl) ?_
          refine lv_bipush (v := nI 16) hx hb dX2_unite_60 (by decide +kernel) ?_
          refine lv_icmp_ge (tgt := 95) hx hb dX2_unite_62 (by decide) (fun c_62 => ?_) (fun c_62 => ?_)
          · have c_62 := nI_le1 (a := 16) (b := k2) (by omega) (by omega) c_62
            refine lv_iload_n hx hb dX2_unite_95 rfl (lv_at hl 3 rfl) ?_
            exact q_iret hx hb hr hlk (by rfl) (va_cast' hP (by rw [show k2 = 16 by omega, show k = z 2 by omega])) hS dX2_unite_96
          · have c_62 := nI_le0 (a := 16) (b := k2) (by omega) (by omega) c_62
            refine lv_aload_n hx hb dX2_unite_65 rfl (lv_at hl 0 rfl) ?_
            refine q_get hx hb hT hown hK hP kw_X2 0 rfl rfl 0 (by decide) kf_X2_14 rfl (v := .ref (ad 22)) rfl dX2_unite_66 ?_
            refine lv_iload hx hb dX2_unite_69 (lv_at hl 5 rfl) ?_
            refine q_callI (As := [.int (nI k2)]) (r := (repl (g 22) (nI (max a b)) (nI (min a b)) k2) k2) (wc := rowW cA (ad 22) (ad 52) 16 (repl (g 22) (nI (max a b)) (nI (min a b)) k2)) (w1 := rowW cA (ad 22) (ad 52) 16 (repl (g 22) (nI (max a b)) (nI (min a b)) k2)) (ws1 := psW cA ad (gs (gs g 22 (repl (g 22) (nI (max a b)) (nI (min a b)) k2)) 23 (repl (g 23) (nI (max a b)) (nI (min a b)) k)) z) hx hb hml hown hT hK hP hD hS hA (c_X3_atN l D cA (ad 22) (ad 52) 16 (repl (g 22) (nI (max a b)) (nI (min a b)) k2) k2 (by omega) (by omega)) k_X3_at kl_X2_27 (q0 := 0) rfl rfl rfl [1, 2] rfl rfl rfl rfl hl rfl rfl (Nat.le_of_ble_eq_true rfl) ⟨⟨rfl, rfl⟩, Nat.le_of_ble_eq_true rfl, Nat.le_of_ble_eq_true rfl⟩ ⟨Nat.zero_le _, Nat.zero_le _⟩ dX2_unite_71 (fun H locs hP hD hS => ?_)
            refine q_top (y := (g 22) k2) (repl_k) ?_
            refine lv_iload hx hb dX2_unite_74 (lv_at hl 4 rfl) ?_
            refine lv_icmp_ne (tgt := 89) hx hb dX2_unite_76 (by decide) (fun c_76 => ?_) (fun c_76 => ?_)
            · refine lv_iinc (v := nI (k2 + 1)) (lv' := [(5, .int (nI (k2 + 1))), (0, .ref (ad 72)), (1, .int (nI a)), (2, .int (nI b)), (3, .int (nI (min a b))), (4, .int (nI (max a b)))]) hx hb dX2_unite_89 hl (k := 5) rfl (q_inc1 _) (by decide) rfl (fun ls hl => ?_)
              refine lv_goto (tgt := 58) hx hb dX2_unite_92 (by decide) ?_
              have ew9 : (psW cA ad (gs (gs g 22 (repl (g 22) (nI (max a b)) (nI (min a b)) k2)) 23 (repl (g 23) (nI (max a b)) (nI (min a b)) k)) z) = (psW cA ad (gs (gs g 22 (repl (g 22) (nI (max a b)) (nI (min a b)) (k2 + 1))) 23 (repl (g 23) (nI (max a b)) (nI (min a b)) k)) z) := by first | with_reducible rfl | (first | (rw [repl_0]; rfl) | rw [repl_t c_76] | rw [repl_f c_76])
              have hP : va_P D vwCl (psW cA ad (gs (gs g 22 (repl (g 22) (nI (max a b)) (nI (min a b)) (k2 + 1))) 23 (repl (g 23) (nI (max a b)) (nI (min a b)) k)) z) H := va_cast' hP ew9
              have hD : va_D A (psW cA ad (gs (gs g 22 (repl (g 22) (nI (max a b)) (nI (min a b)) (k2 + 1))) 23 (repl (g 23) (nI (max a b)) (nI (min a b)) k)) z) := va_castD hD ew9
              exact ih58 (k2 + 1) (by omega) (by omega) (by omega) _ _ _ hP hD hS (lv_sub hl [1, 2, 3, 4, 5, 0] rfl)
            · refine lv_aload_n hx hb dX2_unite_79 rfl (lv_at hl 0 rfl) ?_
              refine q_get hx hb hT hown hK hP kw_X2 0 rfl rfl 0 (by decide) kf_X2_14 rfl (v := .ref (ad 22)) rfl dX2_unite_80 ?_
              refine lv_iload hx hb dX2_unite_83 (lv_at hl 5 rfl) ?_
              refine lv_iload_n hx hb dX2_unite_85 rfl (lv_at hl 3 rfl) ?_
              refine q_callV (As := [.int (nI k2), .int (nI (min a b))]) (wc := rowW cA (ad 22) (ad 52) 16 (repl (g 22) (nI (max a b)) (nI (min a b)) k2)) (w1 := rowW cA (ad 22) (ad 52) 16 (upd (repl (g 22) (nI (max a b)) (nI (min a b)) k2) k2 (nI (min a b)))) (ws1 := psW cA ad (gs (gs g 22 (upd (repl (g 22) (nI (max a b)) (nI (min a b)) k2) k2 (nI (min a b)))) 23 (repl (g 23) (nI (max a b)) (nI (min a b)) k)) z) hx hb hml hown hT hK hP hD hS hA (c_X3_putN l D cA (ad 22) (ad 52) 16 (repl (g 22) (nI (max a b)) (nI (min a b)) k2) k2 (nI (min a b)) (by omega) (by omega)) k_X3_put kl_X2_31 (q0 := 0) rfl rfl rfl [1, 2] rfl rfl rfl rfl hl rfl rfl (Nat.le_of_ble_eq_true rfl) ⟨⟨rfl, rfl⟩, Nat.le_of_ble_eq_true rfl, Nat.le_of_ble_eq_true rfl⟩ ⟨Nat.zero_le _, Nat.zero_le _⟩ dX2_unite_86 (fun H locs hP hD hS => ?_)
              obtain ⟨nF86_22, enF86_22⟩ : ∃ y : Nat → Int32, y = upd (repl (g 22) (nI (max a b)) (nI (min a b)) k2) k2 (nI (min a b)) := ⟨_, rfl⟩
              have hP : va_P D vwCl (psW cA ad (gs (gs g 22 nF86_22) 23 (repl (g 23) (nI (max a b)) (nI (min a b)) k)) z) H := by rw [enF86_22]; exact hP
              have hD : va_D A (psW cA ad (gs (gs g 22 nF86_22) 23 (repl (g 23) (nI (max a b)) (nI (min a b)) k)) z) := by rw [enF86_22]; exact hD
              refine lv_iinc (v := nI (k2 + 1)) (lv' := [(5, .int (nI (k2 + 1))), (0, .ref (ad 72)), (1, .int (nI a)), (2, .int (nI b)), (3, .int (nI (min a b))), (4, .int (nI (max a b)))]) hx hb dX2_unite_89 hl (k := 5) rfl (q_inc1 _) (by decide) rfl (fun ls hl => ?_)
              refine lv_goto (tgt := 58) hx hb dX2_unite_92 (by decide) ?_
              rw [enF86_22] at hP hD
              have ew9 : (psW cA ad (gs (gs g 22 (upd (repl (g 22) (nI (max a b)) (nI (min a b)) k2) k2 (nI (min a b)))) 23 (repl (g 23) (nI (max a b)) (nI (min a b)) k)) z) = (psW cA ad (gs (gs g 22 (repl (g 22) (nI (max a b)) (nI (min a b)) (k2 + 1))) 23 (repl (g 23) (nI (max a b)) (nI (min a b)) k)) z) := by first | with_reducible rfl | (first | (rw [repl_0]; rfl) | rw [repl_t c_76] | rw [repl_f c_76])
              have hP : va_P D vwCl (psW cA ad (gs (gs g 22 (repl (g 22) (nI (max a b)) (nI (min a b)) (k2 + 1))) 23 (repl (g 23) (nI (max a b)) (nI (min a b)) k)) z) H := va_cast' hP ew9
              have hD : va_D A (psW cA ad (gs (gs g 22 (repl (g 22) (nI (max a b)) (nI (min a b)) (k2 + 1))) 23 (repl (g 23) (nI (max a b)) (nI (min a b)) k)) z) := va_castD hD ew9
              exact ih58 (k2 + 1) (by omega) (by omega) (by omega) _ _ _ hP hD hS (lv_sub hl [1, 2, 3, 4, 5, 0] rfl)
      refine lv_iload hx hb dX2_unite_16 (lv_at hl 5 rfl) ?_
      refine lv_aload_n hx hb dX2_unite_18 rfl (lv_at hl 0 rfl) ?_
      refine q_get hx hb hT hown hK hP kw_X2 0 rfl rfl 2 (by decide) kf_X2_23 rfl (v := .int (nI (z 2))) rfl dX2_unite_19 ?_
      refine lv_icmp_ge (tgt := 55) hx hb dX2_unite_22 (by decide) (fun c_22 => ?_) (fun c_22 => ?_)
      · have c_22 := nI_le1 (a := z 2) (b := k) (by omega) (by omega) c_22
        refine lv_iconst (v := nI 0) hx hb dX2_unite_55 (by decide +kernel) ?_
        refine lv_istore (lv' := [(5, .int (nI 0)), (0, .ref (ad 72)), (1, .int (nI a)), (2, .int (nI b)), (3, .int (nI (min a b))), (4, .int (nI (max a b)))]) hx hb dX2_unite_56 hl (by decide) rfl (fun ls hl => ?_)
        have ew9 : (psW cA ad (gs g 23 (repl (g 23) (nI (max a b)) (nI (min a b)) k)) z) = (psW cA ad (gs (gs g 22 (repl (g 22) (nI (max a b)) (nI (min a b)) 0)) 23 (repl (g 23) (nI (max a b)) (nI (min a b)) k)) z) := by first | with_reducible rfl | (first | (rw [repl_0]; rfl) | rw [repl_t c_76] | rw [repl_f c_76])
        have hP : va_P D vwCl (psW cA ad (gs (gs g 22 (repl (g 22) (nI (max a b)) (nI (min a b)) 0)) 23 (repl (g 23) (nI (max a b)) (nI (min a b)) k)) z) H := va_cast' hP ew9
        have hD : va_D A (psW cA ad (gs (gs g 22 (repl (g 22) (nI (max a b)) (nI (min a b)) 0)) 23 (repl (g 23) (nI (max a b)) (nI (min a b)) k)) z) := va_castD hD ew9
        exact zqL58 (16 + 1) 0 (by omega) (by omega) (by omega) _ _ _ hP hD hS (lv_sub hl [1, 2, 3, 4, 5, 0] rfl)
      · have c_22 := nI_le0 (a := z 2) (b := k) (by omega) (by omega) c_22
        refine lv_aload_n hx hb dX2_unite_25 rfl (lv_at hl 0 rfl) ?_
        refine q_get hx hb hT hown hK hP kw_X2 0 rfl rfl 1 (by decide) kf_X2_20 rfl (v := .ref (ad 23)) rfl dX2_unite_26 ?_
        refine lv_iload hx hb dX2_unite_29 (lv_at hl 5 rfl) ?_
        refine q_callI (As := [.int (nI k)]) (r := (repl (g 23) (nI (max a b)) (nI (min a b)) k) k) (wc := rowW cA (ad 23) (ad 53) 40 (repl (g 23) (nI (max a b)) (nI (min a b)) k)) (w1 := rowW cA (ad 23) (ad 53) 40 (repl (g 23) (nI (max a b)) (nI (min a b)) k)) (ws1 := psW cA ad (gs g 23 (repl (g 23) (nI (max a b)) (nI (min a b)) k)) z) hx hb hml hown hT hK hP hD hS hA (c_X3_atN l D cA (ad 23) (ad 53) 40 (repl (g 23) (nI (max a b)) (nI (min a b)) k) k (by omega) (by omega)) k_X3_at kl_X2_27 (q0 := 0) rfl rfl rfl [3, 4] rfl rfl rfl rfl hl rfl rfl (Nat.le_of_ble_eq_true rfl) ⟨⟨rfl, rfl⟩, Nat.le_of_ble_eq_true rfl, Nat.le_of_ble_eq_true rfl⟩ ⟨Nat.zero_le _, Nat.zero_le _⟩ dX2_unite_31 (fun H locs hP hD hS => ?_)
        refine q_top (y := (g 23) k) (repl_k) ?_
        refine lv_iload hx hb dX2_unite_34 (lv_at hl 4 rfl) ?_
        refine lv_icmp_ne (tgt := 49) hx hb dX2_unite_36 (by decide) (fun c_36 => ?_) (fun c_36 => ?_)
        · refine lv_iinc (v := nI (k + 1)) (lv' := [(5, .int (nI (k + 1))), (0, .ref (ad 72)), (1, .int (nI a)), (2, .int (nI b)), (3, .int (nI (min a b))), (4, .int (nI (max a b)))]) hx hb dX2_unite_49 hl (k := 5) rfl (q_inc1 _) (by decide) rfl (fun ls hl => ?_)
          refine lv_goto (tgt := 16) hx hb dX2_unite_52 (by decide) ?_
          have ew9 : (psW cA ad (gs g 23 (repl (g 23) (nI (max a b)) (nI (min a b)) k)) z) = (psW cA ad (gs g 23 (repl (g 23) (nI (max a b)) (nI (min a b)) (k + 1))) z) := by first | with_reducible rfl | (first | (rw [repl_0]; rfl) | rw [repl_t c_36] | rw [repl_f c_36])
          have hP : va_P D vwCl (psW cA ad (gs g 23 (repl (g 23) (nI (max a b)) (nI (min a b)) (k + 1))) z) H := va_cast' hP ew9
          have hD : va_D A (psW cA ad (gs g 23 (repl (g 23) (nI (max a b)) (nI (min a b)) (k + 1))) z) := va_castD hD ew9
          exact ih16 (k + 1) (by omega) (by omega) _ _ _ hP hD hS (lv_sub hl [1, 2, 3, 4, 5, 0] rfl)
        · refine lv_aload_n hx hb dX2_unite_39 rfl (lv_at hl 0 rfl) ?_
          refine q_get hx hb hT hown hK hP kw_X2 0 rfl rfl 1 (by decide) kf_X2_20 rfl (v := .ref (ad 23)) rfl dX2_unite_40 ?_
          refine lv_iload hx hb dX2_unite_43 (lv_at hl 5 rfl) ?_
          refine lv_iload_n hx hb dX2_unite_45 rfl (lv_at hl 3 rfl) ?_
          refine q_callV (As := [.int (nI k), .int (nI (min a b))]) (wc := rowW cA (ad 23) (ad 53) 40 (repl (g 23) (nI (max a b)) (nI (min a b)) k)) (w1 := rowW cA (ad 23) (ad 53) 40 (upd (repl (g 23) (nI (max a b)) (nI (min a b)) k) k (nI (min a b)))) (ws1 := psW cA ad (gs g 23 (upd (repl (g 23) (nI (max a b)) (nI (min a b)) k) k (nI (min a b)))) z) hx hb hml hown hT hK hP hD hS hA (c_X3_putN l D cA (ad 23) (ad 53) 40 (repl (g 23) (nI (max a b)) (nI (min a b)) k) k (nI (min a b)) (by omega) (by omega)) k_X3_put kl_X2_31 (q0 := 0) rfl rfl rfl [3, 4] rfl rfl rfl rfl hl rfl rfl (Nat.le_of_ble_eq_true rfl) ⟨⟨rfl, rfl⟩, Nat.le_of_ble_eq_true rfl, Nat.le_of_ble_eq_true rfl⟩ ⟨Nat.zero_le _, Nat.zero_le _⟩ dX2_unite_46 (fun H locs hP hD hS => ?_)
          obtain ⟨nF46_23, enF46_23⟩ : ∃ y : Nat → Int32, y = upd (repl (g 23) (nI (max a b)) (nI (min a b)) k) k (nI (min a b)) := ⟨_, rfl⟩
          have hP : va_P D vwCl (psW cA ad (gs g 23 nF46_23) z) H := by rw [enF46_23]; exact hP
          have hD : va_D A (psW cA ad (gs g 23 nF46_23) z) := by rw [enF46_23]; exact hD
          refine lv_iinc (v := nI (k + 1)) (lv' := [(5, .int (nI (k + 1))), (0, .ref (ad 72)), (1, .int (nI a)), (2, .int (nI b)), (3, .int (nI (min a b))), (4, .int (nI (max a b)))]) hx hb dX2_unite_49 hl (k := 5) rfl (q_inc1 _) (by decide) rfl (fun ls hl => ?_)
          refine lv_goto (tgt := 16) hx hb dX2_unite_52 (by decide) ?_
          rw [enF46_23] at hP hD
          have ew9 : (psW cA ad (gs g 23 (upd (repl (g 23) (nI (max a b)) (nI (min a b)) k) k (nI (min a b)))) z) = (psW cA ad (gs g 23 (repl (g 23) (nI (max a b)) (nI (min a b)) (k + 1))) z) := by first | with_reducible rfl | (first | (rw [repl_0]; rfl) | rw [repl_t c_36] | rw [repl_f c_36])
          have hP : va_P D vwCl (psW cA ad (gs g 23 (repl (g 23) (nI (max a b)) (nI (min a b)) (k + 1))) z) H := va_cast' hP ew9
          have hD : va_D A (psW cA ad (gs g 23 (repl (g 23) (nI (max a b)) (nI (min a b)) (k + 1))) z) := va_castD hD ew9
          exact ih16 (k + 1) (by omega) (by omega) _ _ _ hP hD hS (lv_sub hl [1, 2, 3, 4, 5, 0] rfl)
  refine lv_iload_n hx hb dX2_unite_0 rfl (lv_at hl 1 rfl) ?_
  refine lv_iload_n hx hb dX2_unite_1 rfl (lv_at hl 2 rfl) ?_
  refine q_min hx hb hml hown hT hl kl_X2_35 (Nat.le_of_ble_eq_true rfl) (Nat.le_of_ble_eq_true rfl) ⟨Nat.zero_le _, Nat.zero_le _⟩ dX2_unite_2 ?_
  refine q_top (y := nI (min a b)) (q_minN (by omega) (by omega)) ?_
  refine lv_istore_n (lv' := [(3, .int (nI (min a b))), (0, .ref (ad 72)), (1, .int (nI a)), (2, .int (nI b))]) hx hb dX2_unite_5 rfl hl (by decide) rfl (fun ls hl => ?_)
  refine lv_iload_n hx hb dX2_unite_6 rfl (lv_at hl 2 rfl) ?_
  refine lv_iload_n hx hb dX2_unite_7 rfl (lv_at hl 3 rfl) ?_
  refine q_max hx hb hml hown hT hl kl_X2_41 (Nat.le_of_ble_eq_true rfl) (Nat.le_of_ble_eq_true rfl) ⟨Nat.zero_le _, Nat.zero_le _⟩ dX2_unite_8 ?_
  refine q_top (y := nI (max a b)) (q_maxN (by omega) (by omega)) ?_
  refine lv_istore (lv' := [(4, .int (nI (max a b))), (3, .int (nI (min a b))), (0, .ref (ad 72)), (1, .int (nI a)), (2, .int (nI b))]) hx hb dX2_unite_11 hl (by decide) rfl (fun ls hl => ?_)
  refine lv_iconst (v := nI 0) hx hb dX2_unite_13 (by decide +kernel) ?_
  refine lv_istore (lv' := [(5, .int (nI 0)), (4, .int (nI (max a b))), (3, .int (nI (min a b))), (0, .ref (ad 72)), (1, .int (nI a)), (2, .int (nI b))]) hx hb dX2_unite_14 hl (by decide) rfl (fun ls hl => ?_)
  have ew9 : (psW cA ad g z) = (psW cA ad (gs g 23 (repl (g 23) (nI (max a b)) (nI (min a b)) 0)) z) := by first | with_reducible rfl | (first | (rw [repl_0]; rfl) | rw [repl_t c_36] | rw [repl_f c_36])
  have hP : va_P D vwCl (psW cA ad (gs g 23 (repl (g 23) (nI (max a b)) (nI (min a b)) 0)) z) H := va_cast' hP ew9
  have hD : va_D A (psW cA ad (gs g 23 (repl (g 23) (nI (max a b)) (nI (min a b)) 0)) z) := va_castD hD ew9
  exact zqL16 (z 2 + 1) 0 (by omega) (by omega) _ _ _ hP hD hS (lv_sub hl [3, 4, 5, 2, 1, 0] rfl)
end
section
/-! one pass over the first k tellings: first years go up, last years go down; both apart -/
def psF (a b w F : Nat → Int32) : Nat → Nat → Int32
  | 0 => F
  | k + 1 => if psF a b w F k (q_n (b k)) < psF a b w F k (q_n (a k)) + w k then upd (psF a b w F k) (q_n (b k)) (psF a b w F k (q_n (a k)) + w k) else psF a b w F k
def psL (a b w L : Nat → Int32) : Nat → Nat → Int32
  | 0 => L
  | k + 1 => if psL a b w L k (q_n (b k)) - w k < psL a b w L k (q_n (a k)) then upd (psL a b w L k) (q_n (a k)) (psL a b w L k (q_n (b k)) - w k) else psL a b w L k
/-- whether something was pushed -/
def psC (a b w F L : Nat → Int32) : Nat → Bool
  | 0 => false
  | k + 1 => psC a b w F L k || decide (psF a b w F k (q_n (b k)) < psF a b w F k (q_n (a k)) + w k) || decide (psL a b w L k (q_n (b k)) - w k < psL a b w L k (q_n (a k)))
/-- so many passes -/
def itF (a b w F : Nat → Int32) (t : Nat) : Nat → Nat → Int32
  | 0 => F
  | r + 1 => psF a b w (itF a b w F t r) t
def itL (a b w L : Nat → Int32) (t : Nat) : Nat → Nat → Int32
  | 0 => L
  | r + 1 => psL a b w (itL a b w L t r) t
def itC (a b w F L : Nat → Int32) (t : Nat) (r : Nat) : Bool := psC a b w (itF a b w F t r) (itL a b w L t r) t
theorem psF_t {a b w F : Nat → Int32} {k : Nat} (h : psF a b w F k (q_n (b k)) < psF a b w F k (q_n (a k)) + w k) : upd (psF a b w F k) (q_n (b k)) (psF a b w F k (q_n (a k)) + w k) = psF a b w F (k + 1) := by rw [psF, if_pos h]
theorem psF_f {a b w F : Nat → Int32} {k : Nat} (h : ¬ psF a b w F k (q_n (b k)) < psF a b w F k (q_n (a k)) + w k) : psF a b w F k = psF a b w F (k + 1) := by rw [psF, if_neg h]
theorem psL_t {a b w L : Nat → Int32} {k : Nat} (h : psL a b w L k (q_n (b k)) - w k < psL a b w L k (q_n (a k))) : upd (psL a b w L k) (q_n (a k)) (psL a b w L k (q_n (b k)) - w k) = psL a b w L (k + 1) := by rw [psL, if_pos h]
theorem psL_f {a b w L : Nat → Int32} {k : Nat} (h : ¬ psL a b w L k (q_n (b k)) - w k < psL a b w L k (q_n (a k))) : psL a b w L k = psL a b w L (k + 1) := by rw [psL, if_neg h]
/-- a pass without a push moves nothing -/
theorem ps_0 (a b w F L : Nat → Int32) : ∀ k, psC a b w F L k = false → psF a b w F k = F ∧ psL a b w L k = L
  | 0, _ => ⟨rfl, rfl⟩
  | k + 1, h => by
    simp only [psC, Bool.or_eq_false_iff, decide_eq_false_iff_not] at h
    obtain ⟨h1, h2⟩ := ps_0 a b w F L k h.1.1
    exact ⟨by rw [psF, if_neg h.1.2, h1], by rw [psL, if_neg h.2, h2]⟩
theorem it_0 {a b w F L : Nat → Int32} {t r : Nat} (h : itC a b w F L t r = false) : ∀ m, itF a b w F t (r + m) = itF a b w F t r ∧ itL a b w L t (r + m) = itL a b w L t r
  | 0 => ⟨rfl, rfl⟩
  | m + 1 => by
    obtain ⟨h1, h2⟩ := it_0 h m
    obtain ⟨h3, h4⟩ := ps_0 _ _ _ _ _ t h
    refine ⟨?_, ?_⟩
    · show psF a b w (itF a b w F t (r + m)) t = _
      rw [h1, h3]
    · show psL a b w (itL a b w L t (r + m)) t = _
      rw [h2, h4]
theorem it_16 {a b w F L : Nat → Int32} {t r : Nat} (h : itC a b w F L t r = false) (hr : r < 16) : itF a b w F t (r + 1) = itF a b w F t 16 ∧ itL a b w L t (r + 1) = itL a b w L t 16 := by
  obtain ⟨h1, h2⟩ := it_0 h (16 - r)
  obtain ⟨h3, h4⟩ := it_0 h 1
  rw [show r + (16 - r) = 16 by omega] at h1 h2
  exact ⟨by rw [h3, h1], by rw [h4, h2]⟩
/-- it comes to rest within sixteen passes -/
def itRn (a b w F L : Nat → Int32) (t : Nat) : Nat → Bool
  | 0 => false
  | r + 1 => itRn a b w F L t r || !itC a b w F L t r
def itR (a b w F L : Nat → Int32) (t : Nat) : Bool := itRn a b w F L t 16
theorem itRn_iff {a b w F L : Nat → Int32} {t : Nat} : ∀ n, itRn a b w F L t n = true ↔ ∃ r, r < n ∧ itC a b w F L t r = false
  | 0 => by simp [itRn]
  | n + 1 => by
    rw [itRn, Bool.or_eq_true, itRn_iff n, Bool.not_eq_true']
    constructor
    · rintro (⟨r, h1, h2⟩ | h)
      · exact ⟨r, by omega, h2⟩
      · exact ⟨n, by omega, h⟩
    · rintro ⟨r, h1, h2⟩
      rcases Nat.lt_or_ge r n with q | q
      · exact Or.inl ⟨r, q, h2⟩
      · rw [show r = n by omega] at h2
        exact Or.inr h2
theorem itR_iff {a b w F L : Nat → Int32} {t : Nat} : itR a b w F L t = true ↔ ∃ r, r < 16 ∧ itC a b w F L t r = false := itRn_iff 16
theorem itR_t {a b w F L : Nat → Int32} {t r : Nat} (hr : r < 16) (h : itC a b w F L t r = false) : itR a b w F L t = true := itR_iff.2 ⟨r, hr, h⟩
theorem itR_f {a b w F L : Nat → Int32} {t : Nat} (h : ∀ r, r < 16 → itC a b w F L t r = true) : itR a b w F L t = false := by
  cases hb : itR a b w F L t with
  | false => rfl
  | true =>
    obtain ⟨r, h1, h2⟩ := itR_iff.1 hb
    rw [h r h1] at h2
    cases h2
/-- first years are not above last years, in the first k -/
def leB (F L : Nat → Int32) (k : Nat) : Bool := decide (∀ j, j < k → F j ≤ L j)
theorem leB_t {F L : Nat → Int32} {k : Nat} (h : ∀ j, j < k → F j ≤ L j) : leB F L k = true := decide_eq_true h
theorem leB_f {F L : Nat → Int32} {k j : Nat} (hj : j < k) (h : ¬ F j ≤ L j) : leB F L k = false := decide_eq_false (fun z => h (z j hj))
/-- how many are moved, of the first k -/
def mvd (F L F0 L0 : Nat → Int32) : Nat → Nat
  | 0 => 0
  | k + 1 => if F k = F0 k ∧ L k = L0 k then mvd F L F0 L0 k else mvd F L F0 L0 k + 1
theorem mvd_le (F L F0 L0 : Nat → Int32) : ∀ k, mvd F L F0 L0 k ≤ k
  | 0 => Nat.le_refl 0
  | k + 1 => by
    have := mvd_le F L F0 L0 k
    simp only [mvd]
    split <;> omega
theorem mvd_s {F L F0 L0 : Nat → Int32} {k : Nat} (h : F k = F0 k) (h2 : L k = L0 k) : mvd F L F0 L0 k = mvd F L F0 L0 (k + 1) := by rw [mvd, if_pos ⟨h, h2⟩]
theorem mvd_n {F L F0 L0 : Nat → Int32} {k : Nat} (h : ¬ (F k = F0 k ∧ L k = L0 k)) : mvd F L F0 L0 k + 1 = mvd F L F0 L0 (k + 1) := by rw [mvd, if_neg h]
theorem q_nlt3 {x y : Int32} (h : x ≤ y) : ¬ y < x := by
  rw [Int32.le_iff_toInt_le] at h
  rw [Int32.lt_iff_toInt_lt]
  omega
theorem q_lt3 {x y : Int32} (h : ¬ x ≤ y) : y < x := by
  rw [Int32.le_iff_toInt_le] at h
  rw [Int32.lt_iff_toInt_lt]
  omega
theorem q_sub1 (n : Nat) : nI (n + 1) - nI 1 = nI n := by rw [pk_sub (by omega)]; rfl
theorem hE_add {a b : Nat → Int32} {t i j : Nat} (h : ∀ k, k < t → q_r (a k) 16 ∧ q_r (b k) 16) (hi : i < 16) (hj : j < 16) : ∀ k, k < t + 1 → q_r (upd a t (nI i) k) 16 ∧ q_r (upd b t (nI j) k) 16 := by
  intro k hk
  by_cases e : k = t
  · subst e; simp only [upd, if_true]; exact ⟨q_r_nI hi, q_r_nI hj⟩
  · simp only [upd, e, if_false]; exact h k (by omega)
theorem upd_back {f : Nat → Int32} {k : Nat} {x : Int32} : upd (upd f k x) k (f k) = f := by
  funext j
  simp only [upd]
  by_cases e : j = k
  · simp [e]
  · simp [e]
/-- is there a dating; how many it moves; the answer -/
def dOK (a b w lo hi : Nat → Int32) (t : Nat) : Bool := itR a b w lo hi t && leB (itF a b w lo t 16) (itL a b w hi t 16) 16
def dMV (a b w lo hi F0 L0 : Nat → Int32) (t : Nat) : Nat := mvd (itF a b w lo t 16) (itL a b w hi t 16) F0 L0 16
theorem dMV_le {a b w lo hi F0 L0 : Nat → Int32} {t : Nat} : dMV a b w lo hi F0 L0 t ≤ 16 := mvd_le _ _ _ _ 16
def vd (ok : Bool) (n : Nat) : Int32 := bif ok then nI n else (-1)
theorem vd_t {ok : Bool} {n : Nat} (h : ok = true) : nI n = vd ok n := by rw [h]; rfl
theorem vd_f {ok : Bool} {n : Nat} (h : ok = false) : (-1) = vd ok n := by rw [h]; rfl
theorem vd_m1 {ok : Bool} {n : Nat} (hn : n ≤ 16) (h : vd ok n = (-1)) : ok = false := by
  cases ok with
  | false => rfl
  | true =>
    exfalso
    have h2 : nI n = (-1) := h
    have h3 := nI_toInt (n := n) (by omega)
    rw [h2] at h3
    have h4 : ((-1 : Int32)).toInt = -1 := by decide
    omega
theorem vd_ok {ok : Bool} {n : Nat} (h : ¬ vd ok n = (-1)) : ok = true := by
  cases ok with
  | true => rfl
  | false => exact absurd rfl h
theorem dOK_t {a b w lo hi : Nat → Int32} {t : Nat} (h1 : itR a b w lo hi t = true) (h2 : leB (itF a b w lo t 16) (itL a b w hi t 16) 16 = true) : dOK a b w lo hi t = true := by rw [dOK, h1, h2]; rfl
theorem dOK_f1 {a b w lo hi : Nat → Int32} {t : Nat} (h1 : itR a b w lo hi t = false) : dOK a b w lo hi t = false := by rw [dOK, h1]; rfl
theorem dOK_f2 {a b w lo hi : Nat → Int32} {t : Nat} (h2 : leB (itF a b w lo t 16) (itL a b w hi t 16) 16 = false) : dOK a b w lo hi t = false := by rw [dOK, h2, Bool.and_false]
def mx (x y : Int32) : Int32 := if x < y then y else x
def mn (x y : Int32) : Int32 := if y < x then y else x
abbrev rm_X4_isFullyTold : Room := { frames := 0, cells := 0, slots := 0, locals := 0 }
set_option maxRecDepth 100000 in
set_option maxHeartbeats 4000000 in
theorem c_X4_isFullyTold (l : Launch) (D : va_G) (cA : ClassId) (ad : Nat → Nat) (g : Nat → Nat → Int32) (z : Nat → Nat)  (ht : (z 1) ≤ 40) : q_CI l yX4_isFullyTold [Cond.code yX4_isFullyTold cX4_isFullyTold 1 (some .boolean)] rm_X4_isFullyTold D cA [.ref (ad 71)] (yrW cA ad g z) (q_b (decide (40 ≤ (z 1)))) (yrW cA ad g z) := by
  refine q_startI RX4 (by decide +kernel) rfl (Nat.le_of_ble_eq_true rfl) ?_
  intro p e s m below meth c A args H locs ls hx hb hr hml hown hT hlk hP hK hD hA hS hl
  have hl : lv_has ls 1 [(0, .ref (ad 71))] := hl
  refine lv_aload_n hx hb dX4_isFullyTold_0 rfl (lv_at hl 0 rfl) ?_
  refine q_get hx hb hT hown hK hP kw_X4 0 rfl rfl 10 (by decide) kf_X4_50 rfl (v := .int (nI (z 1))) rfl dX4_isFullyTold_1 ?_
  refine lv_bipush (v := nI 40) hx hb dX4_isFullyTold_4 (by decide +kernel) ?_
  refine lv_icmp_lt (tgt := 13) hx hb dX4_isFullyTold_6 (by decide) (fun c_6 => ?_) (fun c_6 => ?_)
  · have c_6 := nI_lt1 (a := z 1) (b := 40) (by omega) (by omega) c_6
    refine lv_iconst (v := nI 0) hx hb dX4_isFullyTold_13 (by decide +kernel) ?_
    exact q_zret hx hb hr hlk (Or.inl rfl) (by first | exact q_bt (decide_eq_true c_6) | exact q_bf (decide_eq_false (by omega))) hP hS dX4_isFullyTold_14
  · have c_6 := nI_lt0 (a := z 1) (b := 40) (by omega) (by omega) c_6
    refine lv_iconst (v := nI 1) hx hb dX4_isFullyTold_9 (by decide +kernel) ?_
    refine lv_goto (tgt := 14) hx hb dX4_isFullyTold_10 (by decide) ?_
    exact q_zret hx hb hr hlk (Or.inr rfl) (by first | exact q_bt (decide_eq_true c_6) | exact q_bf (decide_eq_false (by omega))) hP hS dX4_isFullyTold_14
abbrev rm_X4_firstOf : Room := { frames := 1, cells := 0, slots := 0, locals := 21 }
set_option maxRecDepth 100000 in
set_option maxHeartbeats 4000000 in
theorem c_X4_firstOf (l : Launch) (D : va_G) (cA : ClassId) (ad : Nat → Nat) (g : Nat → Nat → Int32) (z : Nat → Nat) (k : Nat) (hk : k < 16) : q_CI l yX4_firstOf [Cond.code yX4_firstOf cX4_firstOf 2 (some .int)] rm_X4_firstOf D cA [.ref (ad 71), .int (nI k)] (yrW cA ad g z) ((g 17) k) (yrW cA ad g z) := by
  refine q_startI RX4 (by decide +kernel) rfl (Nat.le_of_ble_eq_true rfl) ?_
  intro p e s m below meth c A args H locs ls hx hb hr hml hown hT hlk hP hK hD hA hS hl
  have hl : lv_has ls 2 [(0, .ref (ad 71)), (1, .int (nI k))] := hl
  refine lv_aload_n hx hb dX4_firstOf_0 rfl (lv_at hl 0 rfl) ?_
  refine q_get hx hb hT hown hK hP kw_X4 0 rfl rfl 5 (by decide) kf_X4_32 rfl (v := .ref (ad 17)) rfl dX4_firstOf_1 ?_
  refine lv_iload_n hx hb dX4_firstOf_4 rfl (lv_at hl 1 rfl) ?_
  refine q_callI (As := [.int (nI k)]) (r := g 17 k) (wc := rowW cA (ad 17) (ad 47) 16 (g 17)) (w1 := rowW cA (ad 17) (ad 47) 16 (g 17)) (ws1 := yrW cA ad g z) hx hb hml hown hT hK hP hD hS hA (c_X3_atN l D cA (ad 17) (ad 47) 16 (g 17) k (by omega) (by omega)) k_X3_at kl_X4_54 (q0 := 0) rfl rfl rfl [11, 12] rfl rfl rfl rfl hl rfl rfl (Nat.le_of_ble_eq_true rfl) ⟨⟨rfl, rfl⟩, Nat.le_of_ble_eq_true rfl, Nat.le_of_ble_eq_true rfl⟩ ⟨Nat.zero_le _, Nat.zero_le _⟩ dX4_firstOf_5 (fun H locs hP hD hS => ?_)
  exact q_iret hx hb hr hlk (by rfl) hP hS dX4_firstOf_8
abbrev rm_X4_lastOf : Room := { frames := 1, cells := 0, slots := 0, locals := 21 }
set_option maxRecDepth 100000 in
set_option maxHeartbeats 4000000 in
theorem c_X4_lastOf (l : Launch) (D : va_G) (cA : ClassId) (ad : Nat → Nat) (g : Nat → Nat → Int32) (z : Nat → Nat) (k : Nat) (hk : k < 16) : q_CI l yX4_lastOf [Cond.code yX4_lastOf cX4_lastOf 2 (some .int)] rm_X4_lastOf D cA [.ref (ad 71), .int (nI k)] (yrW cA ad g z) ((g 18) k) (yrW cA ad g z) := by
  refine q_startI RX4 (by decide +kernel) rfl (Nat.le_of_ble_eq_true rfl) ?_
  intro p e s m below meth c A args H locs ls hx hb hr hml hown hT hlk hP hK hD hA hS hl
  have hl : lv_has ls 2 [(0, .ref (ad 71)), (1, .int (nI k))] := hl
  refine lv_aload_n hx hb dX4_lastOf_0 rfl (lv_at hl 0 rfl) ?_
  refine q_get hx hb hT hown hK hP kw_X4 0 rfl rfl 6 (by decide) kf_X4_35 rfl (v := .ref (ad 18)) rfl dX4_lastOf_1 ?_
  refine lv_iload_n hx hb dX4_lastOf_4 rfl (lv_at hl 1 rfl) ?_
  refine q_callI (As := [.int (nI k)]) (r := g 18 k) (wc := rowW cA (ad 18) (ad 48) 16 (g 18)) (w1 := rowW cA (ad 18) (ad 48) 16 (g 18)) (ws1 := yrW cA ad g z) hx hb hml hown hT hK hP hD hS hA (c_X3_atN l D cA (ad 18) (ad 48) 16 (g 18) k (by omega) (by omega)) k_X3_at kl_X4_54 (q0 := 0) rfl rfl rfl [13, 14] rfl rfl rfl rfl hl rfl rfl (Nat.le_of_ble_eq_true rfl) ⟨⟨rfl, rfl⟩, Nat.le_of_ble_eq_true rfl, Nat.le_of_ble_eq_true rfl⟩ ⟨Nat.zero_le _, Nat.zero_le _⟩ dX4_lastOf_5 (fun H locs hP hD hS => ?_)
  exact q_iret hx hb hr hlk (by rfl) hP hS dX4_lastOf_8
abbrev rm_X4_isCertain : Room := { frames := 1, cells := 0, slots := 0, locals := 21 }
set_option maxRecDepth 100000 in
set_option maxHeartbeats 4000000 in
theorem c_X4_isCertain (l : Launch) (D : va_G) (cA : ClassId) (ad : Nat → Nat) (g : Nat → Nat → Int32) (z : Nat → Nat) (k : Nat) (hk : k < 16) : q_CI l yX4_isCertain [Cond.code yX4_isCertain cX4_isCertain 2 (some .boolean)] rm_X4_isCertain D cA [.ref (ad 71), .int (nI k)] (yrW cA ad g z) (q_b (decide ((g 17) k = (g 18) k))) (yrW cA ad g z) := by
  refine q_startI RX4 (by decide +kernel) rfl (Nat.le_of_ble_eq_true rfl) ?_
  intro p e s m below meth c A args H locs ls hx hb hr hml hown hT hlk hP hK hD hA hS hl
  have hl : lv_has ls 2 [(0, .ref (ad 71)), (1, .int (nI k))] := hl
  refine lv_aload_n hx hb dX4_isCertain_0 rfl (lv_at hl 0 rfl) ?_
  refine q_get hx hb hT hown hK hP kw_X4 0 rfl rfl 5 (by decide) kf_X4_32 rfl (v := .ref (ad 17)) rfl dX4_isCertain_1 ?_
  refine lv_iload_n hx hb dX4_isCertain_4 rfl (lv_at hl 1 rfl) ?_
  refine q_callI (As := [.int (nI k)]) (r := g 17 k) (wc := rowW cA (ad 17) (ad 47) 16 (g 17)) (w1 := rowW cA (ad 17) (ad 47) 16 (g 17)) (ws1 := yrW cA ad g z) hx hb hml hown hT hK hP hD hS hA (c_X3_atN l D cA (ad 17) (ad 47) 16 (g 17) k (by omega) (by omega)) k_X3_at kl_X4_54 (q0 := 0) rfl rfl rfl [11, 12] rfl rfl rfl rfl hl rfl rfl (Nat.le_of_ble_eq_true rfl) ⟨⟨rfl, rfl⟩, Nat.le_of_ble_eq_true rfl, Nat.le_of_ble_eq_true rfl⟩ ⟨Nat.zero_le _, Nat.zero_le _⟩ dX4_isCertain_5 (fun H locs hP hD hS => ?_)
  refine lv_aload_n hx hb dX4_isCertain_8 rfl (lv_at hl 0 rfl) ?_
  refine q_get hx hb hT hown hK hP kw_X4 0 rfl rfl 6 (by decide) kf_X4_35 rfl (v := .ref (ad 18)) rfl dX4_isCertain_9 ?_
  refine lv_iload_n hx hb dX4_isCertain_12 rfl (lv_at hl 1 rfl) ?_
  refine q_callI (As := [.int (nI k)]) (r := g 18 k) (wc := rowW cA (ad 18) (ad 48) 16 (g 18)) (w1 := rowW cA (ad 18) (ad 48) 16 (g 18)) (ws1 := yrW cA ad g z) hx hb hml hown hT hK hP hD hS hA (c_X3_atN l D cA (ad 18) (ad 48) 16 (g 18) k (by omega) (by omega)) k_X3_at kl_X4_54 (q0 := 0) rfl rfl rfl [13, 14] rfl rfl rfl rfl hl rfl rfl (Nat.le_of_ble_eq_true rfl) ⟨⟨rfl, rfl⟩, Nat.le_of_ble_eq_true rfl, Nat.le_of_ble_eq_true rfl⟩ ⟨Nat.zero_le _, Nat.zero_le _⟩ dX4_isCertain_13 (fun H locs hP hD hS => ?_)
  refine lv_icmp_ne (tgt := 23) hx hb dX4_isCertain_16 (by decide) (fun c_16 => ?_) (fun c_16 => ?_)
  · refine lv_iconst (v := nI 0) hx hb dX4_isCertain_23 (by decide +kernel) ?_
    exact q_zret hx hb hr hlk (Or.inl rfl) (by first | exact q_bt (decide_eq_true c_16) | exact q_bf (decide_eq_false c_16)) hP hS dX4_isCertain_24
  · refine lv_iconst (v := nI 1) hx hb dX4_isCertain_19 (by decide +kernel) ?_
    refine lv_goto (tgt := 24) hx hb dX4_isCertain_20 (by decide) ?_
    exact q_zret hx hb hr hlk (Or.inr rfl) (by first | exact q_bt (decide_eq_true c_16) | exact q_bf (decide_eq_false c_16)) hP hS dX4_isCertain_24
end
section
abbrev rm_X4_pushAll : Room := { frames := 1, cells := 0, slots := 0, locals := 22 }
set_option maxRecDepth 100000 in
set_option maxHeartbeats 4000000 in
theorem c_X4_pushAll (l : Launch) (D : va_G) (cA : ClassId) (ad : Nat → Nat) (g : Nat → Nat → Int32) (z : Nat → Nat)  (hE : ∀ k, k < (z 1) → q_r ((g 14) k) 16 ∧ q_r ((g 15) k) 16) (ht : (z 1) ≤ 40) : q_CI l yX4_pushAll [Cond.code yX4_pushAll cX4_pushAll 7 (some .boolean)] rm_X4_pushAll D cA [.ref (ad 71)] (yrW cA ad g z) (q_b (psC (g 14) (g 15) (g 16) (g 19) (g 20) (z 1))) (yrW cA ad (gs (gs g 19 (psF (g 14) (g 15) (g 16) (g 19) (z 1))) 20 (psL (g 14) (g 15) (g 16) (g 20) (z 1))) z) := by
  refine q_startI RX4 (by decide +kernel) rfl (Nat.le_of_ble_eq_true rfl) ?_
  intro p e s m below meth c A args H locs ls hx hb hr hml hown hT hlk hP hK hD hA hS hl
  have hl : lv_has ls 7 [(0, .ref (ad 71))] := hl
  have zqL4 : ∀ (fu : Nat), ∀ (k : Nat), (z 1 + 1 ≤ k + fu) → (k ≤ (z 1)) → ∀ (H : Heap) (locs : List Loc) (ls : Array Slot), va_P D vwCl (yrW cA ad (gs (gs g 19 (psF (g 14) (g 15) (g 16) (g 19) k)) 20 (psL (g 14) (g 15) (g 16) (g 20) k)) z) H → va_D A (yrW cA ad (gs (gs g 19 (psF (g 14) (g 15) (g 16) (g 19) k)) 20 (psL (g 14) (g 15) (g 16) (g 20) k)) z) → va_S A s.heap H locs → lv_has ls 7 [(0, .ref (ad 71)), (1, .int (q_b (psC (g 14) (g 15) (g 16) (g 19) (g 20) k))), (2, .int (nI k))] → W p l e rm_X4_pushAll s m args below meth c H locs 0 0 (q_GI D (q_b (psC (g 14) (g 15) (g 16) (g 19) (g 20) (z 1))) (yrW cA ad (gs (gs g 19 (psF (g 14) (g 15) (g 16) (g 19) (z 1))) 20 (psL (g 14) (g 15) (g 16) (g 20) (z 1))) z) A below args s) (F0 m 4 ls []) := by
    intro fu
    induction fu with
    | zero =>
      intro k hfu hk H locs ls hP hD hS hl
      exfalso; omega
    | succ fu ih4 =>
      intro k hfu hk H locs ls hP hD hS hl
      have zqJ122 : (k < (z 1)) → ∀ (H : Heap) (locs : List Loc) (ls : Array Slot), va_P D vwCl (yrW cA ad (gs (gs g 19 (psF (g 14) (g 15) (g 16) (g 19) (k + 1))) 20 (psL (g 14) (g 15) (g 16) (g 20) (k + 1))) z) H → va_D A (yrW cA ad (gs (gs g 19 (psF (g 14) (g 15) (g 16) (g 19) (k + 1))) 20 (psL (g 14) (g 15) (g 16) (g 20) (k + 1))) z) → va_S A s.heap H locs → lv_has ls 7 [(0, .ref (ad 71)), (1, .int (q_b (psC (g 14) (g 15) (g 16) (g 19) (g 20) k || decide (psF (g 14) (g 15) (g 16) (g 19) k (q_n ((g 15) k)) < psF (g 14) (g 15) (g 16) (g 19) k (q_n ((g 14) k)) + (g 16) k) || decide (psL (g 14) (g 15) (g 16) (g 20) k (q_n ((g 15) k)) - (g 16) k < psL (g 14) (g 15) (g 16) (g 20) k (q_n ((g 14) k)))))), (2, .int (nI k))] → W p l e rm_X4_pushAll s m args below meth c H locs 0 0 (q_GI D (q_b (psC (g 14) (g 15) (g 16) (g 19) (g 20) (z 1))) (yrW cA ad (gs (gs g 19 (psF (g 14) (g 15) (g 16) (g 19) (z 1))) 20 (psL (g 14) (g 15) (g 16) (g 20) (z 1))) z) A below args s) (F0 m 122 ls []) := by
        intro  hk9 H locs ls hP hD hS hl
        refine lv_iinc (v := nI (k + 1)) (lv' := [(2, .int (nI (k + 1))), (0, .ref (ad 71)), (1, .int (q_b (psC (g 14) (g 15) (g 16) (g 19) (g 20) k || decide (psF (g 14) (g 15) (g 16) (g 19) k (q_n ((g 15) k)) < psF (g 14) (g 15) (g 16) (g 19) k (q_n ((g 14) k)) + (g 16) k) || decide (psL (g 14) (g 15) (g 16) (g 20) k (q_n ((g 15) k)) - (g 16) k < psL (g 14) (g 15) (g 16) (g 20) k (q_n ((g 14) k))))))]) hx hb dX4_pushAll_122 hl (k := 2) rfl (q_inc1 _) (by decide) rfl (fun ls hl => ?_)
        refine lv_goto (tgt := 4) hx hb dX4_pushAll_125 (by decide) ?_
        have e9_0 : (q_b (psC (g 14) (g 15) (g 16) (g 19) (g 20) k || decide (psF (g 14) (g 15) (g 16) (g 19) k (q_n ((g 15) k)) < psF (g 14) (g 15) (g 16) (g 19) k (q_n ((g 14) k)) + (g 16) k) || decide (psL (g 14) (g 15) (g 16) (g 20) k (q_n ((g 15) k)) - (g 16) k < psL (g 14) (g 15) (g 16) (g 20) k (q_n ((g 14) k))))) = (q_b (psC (g 14) (g 15) (g 16) (g 19) (g 20) (k + 1))) := by first | with_reducible rfl | (rfl)
        have hl9 : lv_has ls 7 [(0, .ref (ad 71)), (1, .int (q_b (psC (g 14) (g 15) (g 16) (g 19) (g 20) (k + 1)))), (2, .int (nI (k + 1)))] := lv_cast (l := [(0, .ref (ad 71)), (1, .int (q_b (psC (g 14) (g 15) (g 16) (g 19) (g 20) k || decide (psF (g 14) (g 15) (g 16) (g 19) k (q_n ((g 15) k)) < psF (g 14) (g 15) (g 16) (g 19) k (q_n ((g 14) k)) + (g 16) k) || decide (psL (g 14) (g 15) (g 16) (g 20) k (q_n ((g 15) k)) - (g 16) k < psL (g 14) (g 15) (g 16) (g 20) k (q_n ((g 14) k)))))), (2, .int (nI (k + 1)))]) (lv_sub hl [1, 2, 0] rfl) (congrArg (fun v9 : Int32 => ([(0, .ref (ad 71)), (1, .int v9), (2, .int (nI (k + 1)))] : List (Nat × Value))) e9_0)
        exact ih4 (k + 1) (by omega) (by omega) _ _ _ hP hD hS hl9
      have zqJ97 : (k < (z 1)) → ∀ (H : Heap) (locs : List Loc) (ls : Array Slot), va_P D vwCl (yrW cA ad (gs (gs g 19 (psF (g 14) (g 15) (g 16) (g 19) (k + 1))) 20 (psL (g 14) (g 15) (g 16) (g 20) k)) z) H → va_D A (yrW cA ad (gs (gs g 19 (psF (g 14) (g 15) (g 16) (g 19) (k + 1))) 20 (psL (g 14) (g 15) (g 16) (g 20) k)) z) → va_S A s.heap H locs → lv_has ls 7 [(0, .ref (ad 71)), (1, .int (q_b (psC (g 14) (g 15) (g 16) (g 19) (g 20) k || decide (psF (g 14) (g 15) (g 16) (g 19) k (q_n ((g 15) k)) < psF (g 14) (g 15) (g 16) (g 19) k (q_n ((g 14) k)) + (g 16) k)))), (2, .int (nI k)), (3, .int (nI (q_n ((g 14) k)))), (4, .int (nI (q_n ((g 15) k)))), (6, .int (psL (g 14) (g 15) (g 16) (g 20) k (q_n ((g 15) k)) - (g 16) k))] → W p l e rm_X4_pushAll s m args below meth c H locs 0 0 (q_GI D (q_b (psC (g 14) (g 15) (g 16) (g 19) (g 20) (z 1))) (yrW cA ad (gs (gs g 19 (psF (g 14) (g 15) (g 16) (g 19) (z 1))) 20 (psL (g 14) (g 15) (g 16) (g 20) (z 1))) z) A below args s) (F0 m 97 ls []) := by
        intro  hk9 H locs ls hP hD hS hl
        refine lv_iload hx hb dX4_pushAll_97 (lv_at hl 5 rfl) ?_
        refine lv_aload_n hx hb dX4_pushAll_99 rfl (lv_at hl 0 rfl) ?_
        refine q_get hx hb hT hown hK hP kw_X4 0 rfl rfl 8 (by decide) kf_X4_41 rfl (v := .ref (ad 20)) rfl dX4_pushAll_100 ?_
        refine lv_iload_n hx hb dX4_pushAll_103 rfl (lv_at hl 3 rfl) ?_
        refine q_callI (As := [.int (nI (q_n ((g 14) k)))]) (r := (psL (g 14) (g 15) (g 16) (g 20) k) (q_n ((g 14) k))) (wc := rowW cA (ad 20) (ad 50) 16 (psL (g 14) (g 15) (g 16) (g 20) k)) (w1 := rowW cA (ad 20) (ad 50) 16 (psL (g 14) (g 15) (g 16) (g 20) k)) (ws1 := yrW cA ad (gs (gs g 19 (psF (g 14) (g 15) (g 16) (g 19) (k + 1))) 20 (psL (g 14) (g 15) (g 16) (g 20) k)) z) hx hb hml hown hT hK hP hD hS hA (c_X3_atN l D cA (ad 20) (ad 50) 16 (psL (g 14) (g 15) (g 16) (g 20) k) (q_n ((g 14) k)) ((hE k (by omega)).1.lt (by omega)) (by omega)) k_X3_at kl_X4_54 (q0 := 0) rfl rfl rfl [17, 18] rfl rfl rfl rfl hl rfl rfl (Nat.le_of_ble_eq_true rfl) ⟨⟨rfl, rfl⟩, Nat.le_of_ble_eq_true rfl, Nat.le_of_ble_eq_true rfl⟩ ⟨Nat.zero_le _, Nat.zero_le _⟩ dX4_pushAll_104 (fun H locs hP hD hS => ?_)
        refine lv_icmp_ge (tgt := 122) hx hb dX4_pushAll_107 (by decide) (fun c_107 => ?_) (fun c_107 => ?_)
        · have d_107 := q_nlt3 c_107
          have e9_0 : (q_b (psC (g 14) (g 15) (g 16) (g 19) (g 20) k || decide (psF (g 14) (g 15) (g 16) (g 19) k (q_n ((g 15) k)) < psF (g 14) (g 15) (g 16) (g 19) k (q_n ((g 14) k)) + (g 16) k))) = (q_b (psC (g 14) (g 15) (g 16) (g 19) (g 20) k || decide (psF (g 14) (g 15) (g 16) (g 19) k (q_n ((g 15) k)) < psF (g 14) (g 15) (g 16) (g 19) k (q_n ((g 14) k)) + (g 16) k) || decide (psL (g 14) (g 15) (g 16) (g 20) k (q_n ((g 15) k)) - (g 16) k < psL (g 14) (g 15) (g 16) (g 20) k (q_n ((g 14) k))))) := by first | with_reducible rfl | (rw [decide_eq_false d_107, Bool.or_false])
          have hl9 : lv_has ls 7 [(0, .ref (ad 71)), (1, .int (q_b (psC (g 14) (g 15) (g 16) (g 19) (g 20) k || decide (psF (g 14) (g 15) (g 16) (g 19) k (q_n ((g 15) k)) < psF (g 14) (g 15) (g 16) (g 19) k (q_n ((g 14) k)) + (g 16) k) || decide (psL (g 14) (g 15) (g 16) (g 20) k (q_n ((g 15) k)) - (g 16) k < psL (g 14) (g 15) (g 16) (g 20) k (q_n ((g 14) k)))))), (2, .int (nI k))] := lv_cast (l := [(0, .ref (ad 71)), (1, .int (q_b (psC (g 14) (g 15) (g 16) (g 19) (g 20) k || decide (psF (g 14) (g 15) (g 16) (g 19) k (q_n ((g 15) k)) < psF (g 14) (g 15) (g 16) (g 19) k (q_n ((g 14) k)) + (g 16) k)))), (2, .int (nI k))]) (lv_sub hl [0, 1, 2] rfl) (congrArg (fun v9 : Int32 => ([(0, .ref (ad 71)), (1, .int v9), (2, .int (nI k))] : List (Nat × Value))) e9_0)
          have ew9 : (yrW cA ad (gs (gs g 19 (psF (g 14) (g 15) (g 16) (g 19) (k + 1))) 20 (psL (g 14) (g 15) (g 16) (g 20) k)) z) = (yrW cA ad (gs (gs g 19 (psF (g 14) (g 15) (g 16) (g 19) (k + 1))) 20 (psL (g 14) (g 15) (g 16) (g 20) (k + 1))) z) := by first | with_reducible rfl | (rw [psL_f d_107])
          have hP : va_P D vwCl (yrW cA ad (gs (gs g 19 (psF (g 14) (g 15) (g 16) (g 19) (k + 1))) 20 (psL (g 14) (g 15) (g 16) (g 20) (k + 1))) z) H := va_cast' hP ew9
          have hD : va_D A (yrW cA ad (gs (gs g 19 (psF (g 14) (g 15) (g 16) (g 19) (k + 1))) 20 (psL (g 14) (g 15) (g 16) (g 20) (k + 1))) z) := va_castD hD ew9
          exact zqJ122  (by omega) _ _ _ hP hD hS hl9
        · have d_107 := q_lt3 c_107
          refine lv_aload_n hx hb dX4_pushAll_110 rfl (lv_at hl 0 rfl) ?_
          refine q_get hx hb hT hown hK hP kw_X4 0 rfl rfl 8 (by decide) kf_X4_41 rfl (v := .ref (ad 20)) rfl dX4_pushAll_111 ?_
          refine lv_iload_n hx hb dX4_pushAll_114 rfl (lv_at hl 3 rfl) ?_
          refine lv_iload hx hb dX4_pushAll_115 (lv_at hl 5 rfl) ?_
          refine q_callV (As := [.int (nI (q_n ((g 14) k))), .int (psL (g 14) (g 15) (g 16) (g 20) k (q_n ((g 15) k)) - (g 16) k)]) (wc := rowW cA (ad 20) (ad 50) 16 (psL (g 14) (g 15) (g 16) (g 20) k)) (w1 := rowW cA (ad 20) (ad 50) 16 (upd (psL (g 14) (g 15) (g 16) (g 20) k) (q_n ((g 14) k)) (psL (g 14) (g 15) (g 16) (g 20) k (q_n ((g 15) k)) - (g 16) k))) (ws1 := yrW cA ad (gs (gs g 19 (psF (g 14) (g 15) (g 16) (g 19) (k + 1))) 20 (upd (psL (g 14) (g 15) (g 16) (g 20) k) (q_n ((g 14) k)) (psL (g 14) (g 15) (g 16) (g 20) k (q_n ((g 15) k)) - (g 16) k))) z) hx hb hml hown hT hK hP hD hS hA (c_X3_putN l D cA (ad 20) (ad 50) 16 (psL (g 14) (g 15) (g 16) (g 20) k) (q_n ((g 14) k)) (psL (g 14) (g 15) (g 16) (g 20) k (q_n ((g 15) k)) - (g 16) k) ((hE k (by omega)).1.lt (by omega)) (by omega)) k_X3_put kl_X4_58 (q0 := 0) rfl rfl rfl [17, 18] rfl rfl rfl rfl hl rfl rfl (Nat.le_of_ble_eq_true rfl) ⟨⟨rfl, rfl⟩, Nat.le_of_ble_eq_true rfl, Nat.le_of_ble_eq_true rfl⟩ ⟨Nat.zero_le _, Nat.zero_le _⟩ dX4_pushAll_117 (fun H locs hP hD hS => ?_)
          obtain ⟨nF117_20, enF117_20⟩ : ∃ y : Nat → Int32, y = upd (psL (g 14) (g 15) (g 16) (g 20) k) (q_n ((g 14) k)) (psL (g 14) (g 15) (g 16) (g 20) k (q_n ((g 15) k)) - (g 16) k) := ⟨_, rfl⟩
          have hP : va_P D vwCl (yrW cA ad (gs (gs g 19 (psF (g 14) (g 15) (g 16) (g 19) (k + 1))) 20 nF117_20) z) H := by rw [enF117_20]; exact hP
          have hD : va_D A (yrW cA ad (gs (gs g 19 (psF (g 14) (g 15) (g 16) (g 19) (k + 1))) 20 nF117_20) z) := by rw [enF117_20]; exact hD
          refine lv_iconst (v := nI 1) hx hb dX4_pushAll_120 (by decide +kernel) ?_
          refine lv_istore_n (lv' := [(1, .int (nI 1)), (0, .ref (ad 71)), (2, .int (nI k)), (3, .int (nI (q_n ((g 14) k)))), (4, .int (nI (q_n ((g 15) k)))), (6, .int (psL (g 14) (g 15) (g 16) (g 20) k (q_n ((g 15) k)) - (g 16) k))]) hx hb dX4_pushAll_121 rfl hl (by decide) rfl (fun ls hl => ?_)
          rw [enF117_20] at hP hD
          have e9_0 : (nI 1) = (q_b (psC (g 14) (g 15) (g 16) (g 19) (g 20) k || decide (psF (g 14) (g 15) (g 16) (g 19) k (q_n ((g 15) k)) < psF (g 14) (g 15) (g 16) (g 19) k (q_n ((g 14) k)) + (g 16) k) || decide (psL (g 14) (g 15) (g 16) (g 20) k (q_n ((g 15) k)) - (g 16) k < psL (g 14) (g 15) (g 16) (g 20) k (q_n ((g 14) k))))) := by first | with_reducible rfl | (rw [decide_eq_true d_107, Bool.or_true]; rfl)
          have hl9 : lv_has ls 7 [(0, .ref (ad 71)), (1, .int (q_b (psC (g 14) (g 15) (g 16) (g 19) (g 20) k || decide (psF (g 14) (g 15) (g 16) (g 19) k (q_n ((g 15) k)) < psF (g 14) (g 15) (g 16) (g 19) k (q_n ((g 14) k)) + (g 16) k) || decide (psL (g 14) (g 15) (g 16) (g 20) k (q_n ((g 15) k)) - (g 16) k < psL (g 14) (g 15) (g 16) (g 20) k (q_n ((g 14) k)))))), (2, .int (nI k))] := lv_cast (l := [(0, .ref (ad 71)), (1, .int (nI 1)), (2, .int (nI k))]) (lv_sub hl [1, 0, 2] rfl) (congrArg (fun v9 : Int32 => ([(0, .ref (ad 71)), (1, .int v9), (2, .int (nI k))] : List (Nat × Value))) e9_0)
          have ew9 : (yrW cA ad (gs (gs g 19 (psF (g 14) (g 15) (g 16) (g 19) (k + 1))) 20 (upd (psL (g 14) (g 15) (g 16) (g 20) k) (q_n ((g 14) k)) (psL (g 14) (g 15) (g 16) (g 20) k (q_n ((g 15) k)) - (g 16) k))) z) = (yrW cA ad (gs (gs g 19 (psF (g 14) (g 15) (g 16) (g 19) (k + 1))) 20 (psL (g 14) (g 15) (g 16) (g 20) (k + 1))) z) := by first | with_reducible rfl | (rw [psL_t d_107])
          have hP : va_P D vwCl (yrW cA ad (gs (gs g 19 (psF (g 14) (g 15) (g 16) (g 19) (k + 1))) 20 (psL (g 14) (g 15) (g 16) (g 20) (k + 1))) z) H := va_cast' hP ew9
          have hD : va_D A (yrW cA ad (gs (gs g 19 (psF (g 14) (g 15) (g 16) (g 19) (k + 1))) 20 (psL (g 14) (g 15) (g 16) (g 20) (k + 1))) z) := va_castD hD ew9
          exact zqJ122  (by omega) _ _ _ hP hD hS hl9
      refine lv_iload_n hx hb dX4_pushAll_4 rfl (lv_at hl 2 rfl) ?_
      refine lv_aload_n hx hb dX4_pushAll_5 rfl (lv_at hl 0 rfl) ?_
      refine q_get hx hb hT hown hK hP kw_X4 0 rfl rfl 10 (by decide) kf_X4_50 rfl (v := .int (nI (z 1))) rfl dX4_pushAll_6 ?_
      refine lv_icmp_ge (tgt := 128) hx hb dX4_pushAll_9 (by decide) (fun c_9 => ?_) (fun c_9 => ?_)
      · have c_9 := nI_le1 (a := z 1) (b := k) (by omega) (by omega) c_9
        refine lv_iload_n hx hb dX4_pushAll_128 rfl (lv_at hl 1 rfl) ?_
        exact q_zret hx hb hr hlk (q_b_or _) (by rw [show k = z 1 by omega]) (va_cast' hP (by rw [show k = z 1 by omega])) hS dX4_pushAll_129
      · have c_9 := nI_le0 (a := z 1) (b := k) (by omega) (by omega) c_9
        refine lv_aload_n hx hb dX4_pushAll_12 rfl (lv_at hl 0 rfl) ?_
        refine q_get hx hb hT hown hK hP kw_X4 0 rfl rfl 2 (by decide) kf_X4_23 rfl (v := .ref (ad 14)) rfl dX4_pushAll_13 ?_
        refine lv_iload_n hx hb dX4_pushAll_16 rfl (lv_at hl 2 rfl) ?_
        refine q_callI (As := [.int (nI k)]) (r := g 14 k) (wc := rowW cA (ad 14) (ad 44) 40 (g 14)) (w1 := rowW cA (ad 14) (ad 44) 40 (g 14)) (ws1 := yrW cA ad (gs (gs g 19 (psF (g 14) (g 15) (g 16) (g 19) k)) 20 (psL (g 14) (g 15) (g 16) (g 20) k)) z) hx hb hml hown hT hK hP hD hS hA (c_X3_atN l D cA (ad 14) (ad 44) 40 (g 14) k (by omega) (by omega)) k_X3_at kl_X4_54 (q0 := 0) rfl rfl rfl [5, 6] rfl rfl rfl rfl hl rfl rfl (Nat.le_of_ble_eq_true rfl) ⟨⟨rfl, rfl⟩, Nat.le_of_ble_eq_true rfl, Nat.le_of_ble_eq_true rfl⟩ ⟨Nat.zero_le _, Nat.zero_le _⟩ dX4_pushAll_17 (fun H locs hP hD hS => ?_)
        refine q_top (y := nI (q_n ((g 14) k))) ((hE k (by omega)).1.eq (by omega)) ?_
        refine lv_istore_n (lv' := [(3, .int (nI (q_n ((g 14) k)))), (0, .ref (ad 71)), (1, .int (q_b (psC (g 14) (g 15) (g 16) (g 19) (g 20) k))), (2, .int (nI k))]) hx hb dX4_pushAll_20 rfl hl (by decide) rfl (fun ls hl => ?_)
        refine lv_aload_n hx hb dX4_pushAll_21 rfl (lv_at hl 1 rfl) ?_
        refine q_get hx hb hT hown hK hP kw_X4 0 rfl rfl 3 (by decide) kf_X4_26 rfl (v := .ref (ad 15)) rfl dX4_pushAll_22 ?_
        refine lv_iload_n hx hb dX4_pushAll_25 rfl (lv_at hl 3 rfl) ?_
        refine q_callI (As := [.int (nI k)]) (r := g 15 k) (wc := rowW cA (ad 15) (ad 45) 40 (g 15)) (w1 := rowW cA (ad 15) (ad 45) 40 (g 15)) (ws1 := yrW cA ad (gs (gs g 19 (psF (g 14) (g 15) (g 16) (g 19) k)) 20 (psL (g 14) (g 15) (g 16) (g 20) k)) z) hx hb hml hown hT hK hP hD hS hA (c_X3_atN l D cA (ad 15) (ad 45) 40 (g 15) k (by omega) (by omega)) k_X3_at kl_X4_54 (q0 := 0) rfl rfl rfl [7, 8] rfl rfl rfl rfl hl rfl rfl (Nat.le_of_ble_eq_true rfl) ⟨⟨rfl, rfl⟩, Nat.le_of_ble_eq_true rfl, Nat.le_of_ble_eq_true rfl⟩ ⟨Nat.zero_le _, Nat.zero_le _⟩ dX4_pushAll_26 (fun H locs hP hD hS => ?_)
        refine q_top (y := nI (q_n ((g 15) k))) ((hE k (by omega)).2.eq (by omega)) ?_
        refine lv_istore (lv' := [(4, .int (nI (q_n ((g 15) k)))), (3, .int (nI (q_n ((g 14) k)))), (0, .ref (ad 71)), (1, .int (q_b (psC (g 14) (g 15) (g 16) (g 19) (g 20) k))), (2, .int (nI k))]) hx hb dX4_pushAll_29 hl (by decide) rfl (fun ls hl => ?_)
        refine lv_aload_n hx hb dX4_pushAll_31 rfl (lv_at hl 2 rfl) ?_
        refine q_get hx hb hT hown hK hP kw_X4 0 rfl rfl 7 (by decide) kf_X4_38 rfl (v := .ref (ad 19)) rfl dX4_pushAll_32 ?_
        refine lv_iload_n hx hb dX4_pushAll_35 rfl (lv_at hl 1 rfl) ?_
        refine q_callI (As := [.int (nI (q_n ((g 14) k)))]) (r := (psF (g 14) (g 15) (g 16) (g 19) k) (q_n ((g 14) k))) (wc := rowW cA (ad 19) (ad 49) 16 (psF (g 14) (g 15) (g 16) (g 19) k)) (w1 := rowW cA (ad 19) (ad 49) 16 (psF (g 14) (g 15) (g 16) (g 19) k)) (ws1 := yrW cA ad (gs (gs g 19 (psF (g 14) (g 15) (g 16) (g 19) k)) 20 (psL (g 14) (g 15) (g 16) (g 20) k)) z) hx hb hml hown hT hK hP hD hS hA (c_X3_atN l D cA (ad 19) (ad 49) 16 (psF (g 14) (g 15) (g 16) (g 19) k) (q_n ((g 14) k)) ((hE k (by omega)).1.lt (by omega)) (by omega)) k_X3_at kl_X4_54 (q0 := 0) rfl rfl rfl [15, 16] rfl rfl rfl rfl hl rfl rfl (Nat.le_of_ble_eq_true rfl) ⟨⟨rfl, rfl⟩, Nat.le_of_ble_eq_true rfl, Nat.le_of_ble_eq_true rfl⟩ ⟨Nat.zero_le _, Nat.zero_le _⟩ dX4_pushAll_36 (fun H locs hP hD hS => ?_)
        refine lv_aload_n hx hb dX4_pushAll_39 rfl (lv_at hl 2 rfl) ?_
        refine q_get hx hb hT hown hK hP kw_X4 0 rfl rfl 4 (by decide) kf_X4_29 rfl (v := .ref (ad 16)) rfl dX4_pushAll_40 ?_
        refine lv_iload_n hx hb dX4_pushAll_43 rfl (lv_at hl 4 rfl) ?_
        refine q_callI (As := [.int (nI k)]) (r := g 16 k) (wc := rowW cA (ad 16) (ad 46) 40 (g 16)) (w1 := rowW cA (ad 16) (ad 46) 40 (g 16)) (ws1 := yrW cA ad (gs (gs g 19 (psF (g 14) (g 15) (g 16) (g 19) k)) 20 (psL (g 14) (g 15) (g 16) (g 20) k)) z) hx hb hml hown hT hK hP hD hS hA (c_X3_atN l D cA (ad 16) (ad 46) 40 (g 16) k (by omega) (by omega)) k_X3_at kl_X4_54 (q0 := 0) rfl rfl rfl [9, 10] rfl rfl rfl rfl hl rfl rfl (Nat.le_of_ble_eq_true rfl) ⟨⟨rfl, rfl⟩, Nat.le_of_ble_eq_true rfl, Nat.le_of_ble_eq_true rfl⟩ ⟨Nat.zero_le _, Nat.zero_le _⟩ dX4_pushAll_44 (fun H locs hP hD hS => ?_)
        refine lv_iadd hx hb dX4_pushAll_47 ?_
        refine lv_istore (lv' := [(5, .int (((psF (g 14) (g 15) (g 16) (g 19) k) (q_n ((g 14) k))) + (g 16 k))), (4, .int (nI (q_n ((g 15) k)))), (3, .int (nI (q_n ((g 14) k)))), (0, .ref (ad 71)), (1, .int (q_b (psC (g 14) (g 15) (g 16) (g 19) (g 20) k))), (2, .int (nI k))]) hx hb dX4_pushAll_48 hl (by decide) rfl (fun ls hl => ?_)
        refine lv_aload_n hx hb dX4_pushAll_50 rfl (lv_at hl 3 rfl) ?_
        refine q_get hx hb hT hown hK hP kw_X4 0 rfl rfl 8 (by decide) kf_X4_41 rfl (v := .ref (ad 20)) rfl dX4_pushAll_51 ?_
        refine lv_iload hx hb dX4_pushAll_54 (lv_at hl 1 rfl) ?_
        refine q_callI (As := [.int (nI (q_n ((g 15) k)))]) (r := (psL (g 14) (g 15) (g 16) (g 20) k) (q_n ((g 15) k))) (wc := rowW cA (ad 20) (ad 50) 16 (psL (g 14) (g 15) (g 16) (g 20) k)) (w1 := rowW cA (ad 20) (ad 50) 16 (psL (g 14) (g 15) (g 16) (g 20) k)) (ws1 := yrW cA ad (gs (gs g 19 (psF (g 14) (g 15) (g 16) (g 19) k)) 20 (psL (g 14) (g 15) (g 16) (g 20) k)) z) hx hb hml hown hT hK hP hD hS hA (c_X3_atN l D cA (ad 20) (ad 50) 16 (psL (g 14) (g 15) (g 16) (g 20) k) (q_n ((g 15) k)) ((hE k (by omega)).2.lt (by omega)) (by omega)) k_X3_at kl_X4_54 (q0 := 0) rfl rfl rfl [17, 18] rfl rfl rfl rfl hl rfl rfl (Nat.le_of_ble_eq_true rfl) ⟨⟨rfl, rfl⟩, Nat.le_of_ble_eq_true rfl, Nat.le_of_ble_eq_true rfl⟩ ⟨Nat.zero_le _, Nat.zero_le _⟩ dX4_pushAll_56 (fun H locs hP hD hS => ?_)
        refine lv_aload_n hx hb dX4_pushAll_59 rfl (lv_at hl 3 rfl) ?_
        refine q_get hx hb hT hown hK hP kw_X4 0 rfl rfl 4 (by decide) kf_X4_29 rfl (v := .ref (ad 16)) rfl dX4_pushAll_60 ?_
        refine lv_iload_n hx hb dX4_pushAll_63 rfl (lv_at hl 5 rfl) ?_
        refine q_callI (As := [.int (nI k)]) (r := g 16 k) (wc := rowW cA (ad 16) (ad 46) 40 (g 16)) (w1 := rowW cA (ad 16) (ad 46) 40 (g 16)) (ws1 := yrW cA ad (gs (gs g 19 (psF (g 14) (g 15) (g 16) (g 19) k)) 20 (psL (g 14) (g 15) (g 16) (g 20) k)) z) hx hb hml hown hT hK hP hD hS hA (c_X3_atN l D cA (ad 16) (ad 46) 40 (g 16) k (by omega) (by omega)) k_X3_at kl_X4_54 (q0 := 0) rfl rfl rfl [9, 10] rfl rfl rfl rfl hl rfl rfl (Nat.le_of_ble_eq_true rfl) ⟨⟨rfl, rfl⟩, Nat.le_of_ble_eq_true rfl, Nat.le_of_ble_eq_true rfl⟩ ⟨Nat.zero_le _, Nat.zero_le _⟩ dX4_pushAll_64 (fun H locs hP hD hS => ?_)
        refine lv_isub hx hb dX4_pushAll_67 ?_
        refine lv_istore (lv' := [(6, .int (((psL (g 14) (g 15) (g 16) (g 20) k) (q_n ((g 15) k))) - (g 16 k))), (5, .int (((psF (g 14) (g 15) (g 16) (g 19) k) (q_n ((g 14) k))) + (g 16 k))), (4, .int (nI (q_n ((g 15) k)))), (3, .int (nI (q_n ((g 14) k)))), (0, .ref (ad 71)), (1, .int (q_b (psC (g 14) (g 15) (g 16) (g 19) (g 20) k))), (2, .int (nI k))]) hx hb dX4_pushAll_68 hl (by decide) rfl (fun ls hl => ?_)
        refine lv_iload hx hb dX4_pushAll_70 (lv_at hl 1 rfl) ?_
        refine lv_aload_n hx hb dX4_pushAll_72 rfl (lv_at hl 4 rfl) ?_
        refine q_get hx hb hT hown hK hP kw_X4 0 rfl rfl 7 (by decide) kf_X4_38 rfl (v := .ref (ad 19)) rfl dX4_pushAll_73 ?_
        refine lv_iload hx hb dX4_pushAll_76 (lv_at hl 2 rfl) ?_
        refine q_callI (As := [.int (nI (q_n ((g 15) k)))]) (r := (psF (g 14) (g 15) (g 16) (g 19) k) (q_n ((g 15) k))) (wc := rowW cA (ad 19) (ad 49) 16 (psF (g 14) (g 15) (g 16) (g 19) k)) (w1 := rowW cA (ad 19) (ad 49) 16 (psF (g 14) (g 15) (g 16) (g 19) k)) (ws1 := yrW cA ad (gs (gs g 19 (psF (g 14) (g 15) (g 16) (g 19) k)) 20 (psL (g 14) (g 15) (g 16) (g 20) k)) z) hx hb hml hown hT hK hP hD hS hA (c_X3_atN l D cA (ad 19) (ad 49) 16 (psF (g 14) (g 15) (g 16) (g 19) k) (q_n ((g 15) k)) ((hE k (by omega)).2.lt (by omega)) (by omega)) k_X3_at kl_X4_54 (q0 := 0) rfl rfl rfl [15, 16] rfl rfl rfl rfl hl rfl rfl (Nat.le_of_ble_eq_true rfl) ⟨⟨rfl, rfl⟩, Nat.le_of_ble_eq_true rfl, Nat.le_of_ble_eq_true rfl⟩ ⟨Nat.zero_le _, Nat.zero_le _⟩ dX4_pushAll_78 (fun H locs hP hD hS => ?_)
        refine lv_icmp_le (tgt := 97) hx hb dX4_pushAll_81 (by decide) (fun c_81 => ?_) (fun c_81 => ?_)
        · have d_81 := q_nlt3 c_81
          have e9_0 : (q_b (psC (g 14) (g 15) (g 16) (g 19) (g 20) k)) = (q_b (psC (g 14) (g 15) (g 16) (g 19) (g 20) k || decide (psF (g 14) (g 15) (g 16) (g 19) k (q_n ((g 15) k)) < psF (g 14) (g 15) (g 16) (g 19) k (q_n ((g 14) k)) + (g 16) k))) := by first | with_reducible rfl | (rw [decide_eq_false d_81, Bool.or_false])
          have hl9 : lv_has ls 7 [(0, .ref (ad 71)), (1, .int (q_b (psC (g 14) (g 15) (g 16) (g 19) (g 20) k || decide (psF (g 14) (g 15) (g 16) (g 19) k (q_n ((g 15) k)) < psF (g 14) (g 15) (g 16) (g 19) k (q_n ((g 14) k)) + (g 16) k)))), (2, .int (nI k)), (3, .int (nI (q_n ((g 14) k)))), (4, .int (nI (q_n ((g 15) k)))), (6, .int (psL (g 14) (g 15) (g 16) (g 20) k (q_n ((g 15) k)) - (g 16) k))] := lv_cast (l := [(0, .ref (ad 71)), (1, .int (q_b (psC (g 14) (g 15) (g 16) (g 19) (g 20) k))), (2, .int (nI k)), (3, .int (nI (q_n ((g 14) k)))), (4, .int (nI (q_n ((g 15) k)))), (6, .int (((psL (g 14) (g 15) (g 16) (g 20) k) (q_n ((g 15) k))) - (g 16 k)))]) (lv_sub hl [4, 5, 6, 3, 2, 0] rfl) (congrArg (fun v9 : Int32 => ([(0, .ref (ad 71)), (1, .int v9), (2, .int (nI k)), (3, .int (nI (q_n ((g 14) k)))), (4, .int (nI (q_n ((g 15) k)))), (6, .int (((psL (g 14) (g 15) (g 16) (g 20) k) (q_n ((g 15) k))) - (g 16 k)))] : List (Nat × Value))) e9_0)
          have ew9 : (yrW cA ad (gs (gs g 19 (psF (g 14) (g 15) (g 16) (g 19) k)) 20 (psL (g 14) (g 15) (g 16) (g 20) k)) z) = (yrW cA ad (gs (gs g 19 (psF (g 14) (g 15) (g 16) (g 19) (k + 1))) 20 (psL (g 14) (g 15) (g 16) (g 20) k)) z) := by first | with_reducible rfl | (rw [psF_f d_81])
          have hP : va_P D vwCl (yrW cA ad (gs (gs g 19 (psF (g 14) (g 15) (g 16) (g 19) (k + 1))) 20 (psL (g 14) (g 15) (g 16) (g 20) k)) z) H := va_cast' hP ew9
          have hD : va_D A (yrW cA ad (gs (gs g 19 (psF (g 14) (g 15) (g 16) (g 19) (k + 1))) 20 (psL (g 14) (g 15) (g 16) (g 20) k)) z) := va_castD hD ew9
          exact zqJ97  (by omega) _ _ _ hP hD hS hl9
        · have d_81 := q_lt3 c_81
          refine lv_aload_n hx hb dX4_pushAll_84 rfl (lv_at hl 4 rfl) ?_
          refine q_get hx hb hT hown hK hP kw_X4 0 rfl rfl 7 (by decide) kf_X4_38 rfl (v := .ref (ad 19)) rfl dX4_pushAll_85 ?_
          refine lv_iload hx hb dX4_pushAll_88 (lv_at hl 2 rfl) ?_
          refine lv_iload hx hb dX4_pushAll_90 (lv_at hl 1 rfl) ?_
          refine q_callV (As := [.int (nI (q_n ((g 15) k))), .int (((psF (g 14) (g 15) (g 16) (g 19) k) (q_n ((g 14) k))) + (g 16 k))]) (wc := rowW cA (ad 19) (ad 49) 16 (psF (g 14) (g 15) (g 16) (g 19) k)) (w1 := rowW cA (ad 19) (ad 49) 16 (upd (psF (g 14) (g 15) (g 16) (g 19) k) (q_n ((g 15) k)) (((psF (g 14) (g 15) (g 16) (g 19) k) (q_n ((g 14) k))) + (g 16 k)))) (ws1 := yrW cA ad (gs (gs g 19 (upd (psF (g 14) (g 15) (g 16) (g 19) k) (q_n ((g 15) k)) (((psF (g 14) (g 15) (g 16) (g 19) k) (q_n ((g 14) k))) + (g 16 k)))) 20 (psL (g 14) (g 15) (g 16) (g 20) k)) z) hx hb hml hown hT hK hP hD hS hA (c_X3_putN l D cA (ad 19) (ad 49) 16 (psF (g 14) (g 15) (g 16) (g 19) k) (q_n ((g 15) k)) (((psF (g 14) (g 15) (g 16) (g 19) k) (q_n ((g 14) k))) + (g 16 k)) ((hE k (by omega)).2.lt (by omega)) (by omega)) k_X3_put kl_X4_58 (q0 := 0) rfl rfl rfl [15, 16] rfl rfl rfl rfl hl rfl rfl (Nat.le_of_ble_eq_true rfl) ⟨⟨rfl, rfl⟩, Nat.le_of_ble_eq_true rfl, Nat.le_of_ble_eq_true rfl⟩ ⟨Nat.zero_le _, Nat.zero_le _⟩ dX4_pushAll_92 (fun H locs hP hD hS => ?_)
          obtain ⟨nF92_19, enF92_19⟩ : ∃ y : Nat → Int32, y = upd (psF (g 14) (g 15) (g 16) (g 19) k) (q_n ((g 15) k)) (((psF (g 14) (g 15) (g 16) (g 19) k) (q_n ((g 14) k))) + (g 16 k)) := ⟨_, rfl⟩
          have hP : va_P D vwCl (yrW cA ad (gs (gs g 19 nF92_19) 20 (psL (g 14) (g 15) (g 16) (g 20) k)) z) H := by rw [enF92_19]; exact hP
          have hD : va_D A (yrW cA ad (gs (gs g 19 nF92_19) 20 (psL (g 14) (g 15) (g 16) (g 20) k)) z) := by rw [enF92_19]; exact hD
          refine lv_iconst (v := nI 1) hx hb dX4_pushAll_95 (by decide +kernel) ?_
          refine lv_istore_n (lv' := [(1, .int (nI 1)), (6, .int (((psL (g 14) (g 15) (g 16) (g 20) k) (q_n ((g 15) k))) - (g 16 k))), (5, .int (((psF (g 14) (g 15) (g 16) (g 19) k) (q_n ((g 14) k))) + (g 16 k))), (4, .int (nI (q_n ((g 15) k)))), (3, .int (nI (q_n ((g 14) k)))), (0, .ref (ad 71)), (2, .int (nI k))]) hx hb dX4_pushAll_96 rfl hl (by decide) rfl (fun ls hl => ?_)
          rw [enF92_19] at hP hD
          have e9_0 : (nI 1) = (q_b (psC (g 14) (g 15) (g 16) (g 19) (g 20) k || decide (psF (g 14) (g 15) (g 16) (g 19) k (q_n ((g 15) k)) < psF (g 14) (g 15) (g 16) (g 19) k (q_n ((g 14) k)) + (g 16) k))) := by first | with_reducible rfl | (rw [decide_eq_true d_81, Bool.or_true]; rfl)
          have hl9 : lv_has ls 7 [(0, .ref (ad 71)), (1, .int (q_b (psC (g 14) (g 15) (g 16) (g 19) (g 20) k || decide (psF (g 14) (g 15) (g 16) (g 19) k (q_n ((g 15) k)) < psF (g 14) (g 15) (g 16) (g 19) k (q_n ((g 14) k)) + (g 16) k)))), (2, .int (nI k)), (3, .int (nI (q_n ((g 14) k)))), (4, .int (nI (q_n ((g 15) k)))), (6, .int (psL (g 14) (g 15) (g 16) (g 20) k (q_n ((g 15) k)) - (g 16) k))] := lv_cast (l := [(0, .ref (ad 71)), (1, .int (nI 1)), (2, .int (nI k)), (3, .int (nI (q_n ((g 14) k)))), (4, .int (nI (q_n ((g 15) k)))), (6, .int (((psL (g 14) (g 15) (g 16) (g 20) k) (q_n ((g 15) k))) - (g 16 k)))]) (lv_sub hl [5, 0, 6, 4, 3, 1] rfl) (congrArg (fun v9 : Int32 => ([(0, .ref (ad 71)), (1, .int v9), (2, .int (nI k)), (3, .int (nI (q_n ((g 14) k)))), (4, .int (nI (q_n ((g 15) k)))), (6, .int (((psL (g 14) (g 15) (g 16) (g 20) k) (q_n ((g 15) k))) - (g 16 k)))] : List (Nat × Value))) e9_0)
          have ew9 : (yrW cA ad (gs (gs g 19 (upd (psF (g 14) (g 15) (g 16) (g 19) k) (q_n ((g 15) k)) (((psF (g 14) (g 15) (g 16) (g 19) k) (q_n ((g 14) k))) + (g 16 k)))) 20 (psL (g 14) (g 15) (g 16) (g 20) k)) z) = (yrW cA ad (gs (gs g 19 (psF (g 14) (g 15) (g 16) (g 19) (k + 1))) 20 (psL (g 14) (g 15) (g 16) (g 20) k)) z) := by first | with_reducible rfl | (rw [psF_t d_81])
          have hP : va_P D vwCl (yrW cA ad (gs (gs g 19 (psF (g 14) (g 15) (g 16) (g 19) (k + 1))) 20 (psL (g 14) (g 15) (g 16) (g 20) k)) z) H := va_cast' hP ew9
          have hD : va_D A (yrW cA ad (gs (gs g 19 (psF (g 14) (g 15) (g 16) (g 19) (k + 1))) 20 (psL (g 14) (g 15) (g 16) (g 20) k)) z) := va_castD hD ew9
          exact zqJ97  (by omega) _ _ _ hP hD hS hl9
  refine lv_iconst (v := nI 0) hx hb dX4_pushAll_0 (by decide +kernel) ?_
  refine lv_istore_n (lv' := [(1, .int (nI 0)), (0, .ref (ad 71))]) hx hb dX4_pushAll_1 rfl hl (by decide) rfl (fun ls hl => ?_)
  refine lv_iconst (v := nI 0) hx hb dX4_pushAll_2 (by decide +kernel) ?_
  refine lv_istore_n (lv' := [(2, .int (nI 0)), (1, .int (nI 0)), (0, .ref (ad 71))]) hx hb dX4_pushAll_3 rfl hl (by decide) rfl (fun ls hl => ?_)
  have e9_0 : (nI 0) = (q_b (psC (g 14) (g 15) (g 16) (g 19) (g 20) 0)) := by first | with_reducible rfl | (rfl)
  have hl9 : lv_has ls 7 [(0, .ref (ad 71)), (1, .int (q_b (psC (g 14) (g 15) (g 16) (g 19) (g 20) 0))), (2, .int (nI 0))] := lv_cast (l := [(0, .ref (ad 71)), (1, .int (nI 0)), (2, .int (nI 0))]) (lv_sub hl [2, 1, 0] rfl) (congrArg (fun v9 : Int32 => ([(0, .ref (ad 71)), (1, .int v9), (2, .int (nI 0))] : List (Nat × Value))) e9_0)
  have ew9 : (yrW cA ad g z) = (yrW cA ad (gs (gs g 19 (psF (g 14) (g 15) (g 16) (g 19) 0)) 20 (psL (g 14) (g 15) (g 16) (g 20) 0)) z) := by first | with_reducible rfl | (rfl)
  have hP : va_P D vwCl (yrW cA ad (gs (gs g 19 (psF (g 14) (g 15) (g 16) (g 19) 0)) 20 (psL (g 14) (g 15) (g 16) (g 20) 0)) z) H := va_cast' hP ew9
  have hD : va_D A (yrW cA ad (gs (gs g 19 (psF (g 14) (g 15) (g 16) (g 19) 0)) 20 (psL (g 14) (g 15) (g 16) (g 20) 0)) z) := va_castD hD ew9
  exact zqL4 (z 1 + 1) 0 (by omega) (by omega) _ _ _ hP hD hS hl9
end
section
abbrev rm_X4_comesToRest : Room := { frames := 2, cells := 0, slots := 0, locals := 48 }
set_option maxRecDepth 100000 in
set_option maxHeartbeats 4000000 in
theorem c_X4_comesToRest (l : Launch) (D : va_G) (cA : ClassId) (ad : Nat → Nat) (g : Nat → Nat → Int32) (z : Nat → Nat)  (hE : ∀ k, k < (z 1) → q_r ((g 14) k) 16 ∧ q_r ((g 15) k) 16) (ht : (z 1) ≤ 40) : q_CI l yX4_comesToRest [Cond.code yX4_comesToRest cX4_comesToRest 2 (some .boolean)] rm_X4_comesToRest D cA [.ref (ad 71)] (yrW cA ad g z) (q_b (itR (g 14) (g 15) (g 16) (g 19) (g 20) (z 1))) (yrW cA ad (gs (gs g 19 (itF (g 14) (g 15) (g 16) (g 19) (z 1) 16)) 20 (itL (g 14) (g 15) (g 16) (g 20) (z 1) 16)) z) := by
  refine q_startI RX4 (by decide +kernel) rfl (Nat.le_of_ble_eq_true rfl) ?_
  intro p e s m below meth c A args H locs ls hx hb hr hml hown hT hlk hP hK hD hA hS hl
  have hl : lv_has ls 2 [(0, .ref (ad 71))] := hl
  have zqL2 : ∀ (fu : Nat), ∀ (r : Nat), (16 + 1 ≤ r + fu) → (r ≤ 16) → (∀ j, j < r → itC (g 14) (g 15) (g 16) (g 19) (g 20) (z 1) j = true) → ∀ (H : Heap) (locs : List Loc) (ls : Array Slot), va_P D vwCl (yrW cA ad (gs (gs g 19 (itF (g 14) (g 15) (g 16) (g 19) (z 1) r)) 20 (itL (g 14) (g 15) (g 16) (g 20) (z 1) r)) z) H → va_D A (yrW cA ad (gs (gs g 19 (itF (g 14) (g 15) (g 16) (g 19) (z 1) r)) 20 (itL (g 14) (g 15) (g 16) (g 20) (z 1) r)) z) → va_S A s.heap H locs → lv_has ls 2 [(0, .ref (ad 71)), (1, .int (nI r))] → W p l e rm_X4_comesToRest s m args below meth c H locs 0 0 (q_GI D (q_b (itR (g 14) (g 15) (g 16) (g 19) (g 20) (z 1))) (yrW cA ad (gs (gs g 19 (itF (g 14) (g 15) (g 16) (g 19) (z 1) 16)) 20 (itL (g 14) (g 15) (g 16) (g 20) (z 1) 16)) z) A below args s) (F0 m 2 ls []) := by
    intro fu
    induction fu with
    | zero =>
      intro r hfu hr9 hc H locs ls hP hD hS hl
      exfalso; omega
    | succ fu ih2 =>
      intro r hfu hr9 hc H locs ls hP hD hS hl
      refine lv_iload_n hx hb dX4_comesToRest_2 rfl (lv_at hl 1 rfl) ?_
      refine lv_bipush (v := nI 16) hx hb dX4_comesToRest_3 (by decide +kernel) ?_
      refine lv_icmp_ge (tgt := 23) hx hb dX4_comesToRest_5 (by decide) (fun c_5 => ?_) (fun c_5 => ?_)
      · have c_5 := nI_le1 (a := 16) (b := r) (by omega) (by omega) c_5
        refine lv_iconst (v := nI 0) hx hb dX4_comesToRest_23 (by decide +kernel) ?_
        exact q_zret hx hb hr hlk (Or.inl rfl) (by exact q_bf (itR_f (fun j hj => hc j (by omega)))) (va_cast' hP (by rw [show r = 16 by omega])) hS dX4_comesToRest_24
      · have c_5 := nI_le0 (a := 16) (b := r) (by omega) (by omega) c_5
        refine lv_aload_n hx hb dX4_comesToRest_8 rfl (lv_at hl 0 rfl) ?_
        refine q_callIW (As := []) (r := q_b (psC (g 14) (g 15) (g 16) (itF (g 14) (g 15) (g 16) (g 19) (z 1) r) (itL (g 14) (g 15) (g 16) (g 20) (z 1) r) (z 1))) (w1 := yrW cA ad (gs (gs g 19 (psF (g 14) (g 15) (g 16) (itF (g 14) (g 15) (g 16) (g 19) (z 1) r) (z 1))) 20 (psL (g 14) (g 15) (g 16) (itL (g 14) (g 15) (g 16) (g 20) (z 1) r) (z 1))) z) hx hb hml hown hT hK hP hD hS hA (c_X4_pushAll l D cA ad (gs (gs g 19 (itF (g 14) (g 15) (g 16) (g 19) (z 1) r)) 20 (itL (g 14) (g 15) (g 16) (g 20) (z 1) r)) z hE (show (z 1) ≤ 40 by omega)) k_X4_pushAll kl_X4_96 (q0 := 0) rfl rfl rfl ((yrW_adr _ _ _ _).trans (yrW_adr _ _ _ _).symm) hl rfl rfl (Nat.le_of_ble_eq_true rfl) ⟨⟨rfl, rfl⟩, Nat.le_of_ble_eq_true rfl, Nat.le_of_ble_eq_true rfl⟩ ⟨Nat.zero_le _, Nat.zero_le _⟩ dX4_comesToRest_9 (fun H locs hP hD hS => ?_)
        obtain ⟨nF9_19, enF9_19⟩ : ∃ y : Nat → Int32, y = psF (g 14) (g 15) (g 16) (itF (g 14) (g 15) (g 16) (g 19) (z 1) r) (z 1) := ⟨_, rfl⟩
        have hP : va_P D vwCl (yrW cA ad (gs (gs g 19 nF9_19) 20 (psL (g 14) (g 15) (g 16) (itL (g 14) (g 15) (g 16) (g 20) (z 1) r) (z 1))) z) H := by rw [enF9_19]; exact hP
        have hD : va_D A (yrW cA ad (gs (gs g 19 nF9_19) 20 (psL (g 14) (g 15) (g 16) (itL (g 14) (g 15) (g 16) (g 20) (z 1) r) (z 1))) z) := by rw [enF9_19]; exact hD
        obtain ⟨nF9_20, enF9_20⟩ : ∃ y : Nat → Int32, y = psL (g 14) (g 15) (g 16) (itL (g 14) (g 15) (g 16) (g 20) (z 1) r) (z 1) := ⟨_, rfl⟩
        have hP : va_P D vwCl (yrW cA ad (gs (gs g 19 nF9_19) 20 nF9_20) z) H := by rw [enF9_20]; exact hP
        have hD : va_D A (yrW cA ad (gs (gs g 19 nF9_19) 20 nF9_20) z) := by rw [enF9_20]; exact hD
        refine lv_if_ne (tgt := 17) hx hb dX4_comesToRest_12 (by decide) (fun c_12 => ?_) (fun c_12 => ?_)
        · have c_12 := q_b0n c_12
          refine lv_iinc (v := nI (r + 1)) (lv' := [(1, .int (nI (r + 1))), (0, .ref (ad 71))]) hx hb dX4_comesToRest_17 hl (k := 1) rfl (q_inc1 _) (by decide) rfl (fun ls hl => ?_)
          refine lv_goto (tgt := 2) hx hb dX4_comesToRest_20 (by decide) ?_
          rw [enF9_20] at hP hD
          rw [enF9_19] at hP hD
          have ew9 : (yrW cA ad (gs (gs g 19 (psF (g 14) (g 15) (g 16) (itF (g 14) (g 15) (g 16) (g 19) (z 1) r) (z 1))) 20 (psL (g 14) (g 15) (g 16) (itL (g 14) (g 15) (g 16) (g 20) (z 1) r) (z 1))) z) = (yrW cA ad (gs (gs g 19 (itF (g 14) (g 15) (g 16) (g 19) (z 1) (r + 1))) 20 (itL (g 14) (g 15) (g 16) (g 20) (z 1) (r + 1))) z) := by first | with_reducible rfl | (rfl)
          have hP : va_P D vwCl (yrW cA ad (gs (gs g 19 (itF (g 14) (g 15) (g 16) (g 19) (z 1) (r + 1))) 20 (itL (g 14) (g 15) (g 16) (g 20) (z 1) (r + 1))) z) H := va_cast' hP ew9
          have hD : va_D A (yrW cA ad (gs (gs g 19 (itF (g 14) (g 15) (g 16) (g 19) (z 1) (r + 1))) 20 (itL (g 14) (g 15) (g 16) (g 20) (z 1) (r + 1))) z) := va_castD hD ew9
          exact ih2 (r + 1) (by omega) (by omega) (fun j hj => by rcases Nat.lt_or_ge j r with q | q; exact hc j q; rw [show j = r by omega]; exact c_12) _ _ _ hP hD hS (lv_sub hl [1, 0] rfl)
        · have c_12 := q_b0e c_12
          refine lv_iconst (v := nI 1) hx hb dX4_comesToRest_15 (by decide +kernel) ?_
          rw [enF9_20] at hP hD
          rw [enF9_19] at hP hD
          exact q_zret hx hb hr hlk (Or.inr rfl) (by exact q_bt (itR_t (by omega) c_12)) (va_cast' hP (by first | rw [← (it_16 c_12 (by omega)).1, ← (it_16 c_12 (by omega)).2]; rfl)) hS dX4_comesToRest_16
  refine lv_iconst (v := nI 0) hx hb dX4_comesToRest_0 (by decide +kernel) ?_
  refine lv_istore_n (lv' := [(1, .int (nI 0)), (0, .ref (ad 71))]) hx hb dX4_comesToRest_1 rfl hl (by decide) rfl (fun ls hl => ?_)
  have ew9 : (yrW cA ad g z) = (yrW cA ad (gs (gs g 19 (itF (g 14) (g 15) (g 16) (g 19) (z 1) 0)) 20 (itL (g 14) (g 15) (g 16) (g 20) (z 1) 0)) z) := by first | with_reducible rfl | (rfl)
  have hP : va_P D vwCl (yrW cA ad (gs (gs g 19 (itF (g 14) (g 15) (g 16) (g 19) (z 1) 0)) 20 (itL (g 14) (g 15) (g 16) (g 20) (z 1) 0)) z) H := va_cast' hP ew9
  have hD : va_D A (yrW cA ad (gs (gs g 19 (itF (g 14) (g 15) (g 16) (g 19) (z 1) 0)) 20 (itL (g 14) (g 15) (g 16) (g 20) (z 1) 0)) z) := va_castD hD ew9
  exact zqL2 (16 + 1) 0 (by omega) (by omega) (fun _ h => absurd h (Nat.not_lt_zero _)) _ _ _ hP hD hS (lv_sub hl [1, 0] rfl)
abbrev rm_X4_leavesYears : Room := { frames := 1, cells := 0, slots := 0, locals := 21 }
set_option maxRecDepth 100000 in
set_option maxHeartbeats 4000000 in
theorem c_X4_leavesYears (l : Launch) (D : va_G) (cA : ClassId) (ad : Nat → Nat) (g : Nat → Nat → Int32) (z : Nat → Nat)   : q_CI l yX4_leavesYears [Cond.code yX4_leavesYears cX4_leavesYears 2 (some .boolean)] rm_X4_leavesYears D cA [.ref (ad 71)] (yrW cA ad g z) (q_b (leB (g 19) (g 20) 16)) (yrW cA ad g z) := by
  refine q_startI RX4 (by decide +kernel) rfl (Nat.le_of_ble_eq_true rfl) ?_
  intro p e s m below meth c A args H locs ls hx hb hr hml hown hT hlk hP hK hD hA hS hl
  have hl : lv_has ls 2 [(0, .ref (ad 71))] := hl
  have zqL2 : ∀ (fu : Nat), ∀ (k : Nat), (16 + 1 ≤ k + fu) → (k ≤ 16) → (∀ j, j < k → (g 19) j ≤ (g 20) j) → ∀ (H : Heap) (locs : List Loc) (ls : Array Slot), va_P D vwCl (yrW cA ad g z) H → va_D A (yrW cA ad g z) → va_S A s.heap H locs → lv_has ls 2 [(0, .ref (ad 71)), (1, .int (nI k))] → W p l e rm_X4_leavesYears s m args below meth c H locs 0 0 (q_GI D (q_b (leB (g 19) (g 20) 16)) (yrW cA ad g z) A below args s) (F0 m 2 ls []) := by
    intro fu
    induction fu with
    | zero =>
      intro k hfu hk hc H locs ls hP hD hS hl
      exfalso; omega
    | succ fu ih2 =>
      intro k hfu hk hc H locs ls hP hD hS hl
      refine lv_iload_n hx hb dX4_leavesYears_2 rfl (lv_at hl 1 rfl) ?_
      refine lv_bipush (v := nI 16) hx hb dX4_leavesYears_3 (by decide +kernel) ?_
      refine lv_icmp_ge (tgt := 35) hx hb dX4_leavesYears_5 (by decide) (fun c_5 => ?_) (fun c_5 => ?_)
      · have c_5 := nI_le1 (a := 16) (b := k) (by omega) (by omega) c_5
        refine lv_iconst (v := nI 1) hx hb dX4_leavesYears_35 (by decide +kernel) ?_
        exact q_zret hx hb hr hlk (Or.inr rfl) (by exact q_bt (leB_t (fun j hj => hc j (by omega)))) hP hS dX4_leavesYears_36
      · have c_5 := nI_le0 (a := 16) (b := k) (by omega) (by omega) c_5
        refine lv_aload_n hx hb dX4_leavesYears_8 rfl (lv_at hl 0 rfl) ?_
        refine q_get hx hb hT hown hK hP kw_X4 0 rfl rfl 7 (by decide) kf_X4_38 rfl (v := .ref (ad 19)) rfl dX4_leavesYears_9 ?_
        refine lv_iload_n hx hb dX4_leavesYears_12 rfl (lv_at hl 1 rfl) ?_
        refine q_callI (As := [.int (nI k)]) (r := g 19 k) (wc := rowW cA (ad 19) (ad 49) 16 (g 19)) (w1 := rowW cA (ad 19) (ad 49) 16 (g 19)) (ws1 := yrW cA ad g z) hx hb hml hown hT hK hP hD hS hA (c_X3_atN l D cA (ad 19) (ad 49) 16 (g 19) k (by omega) (by omega)) k_X3_at kl_X4_54 (q0 := 0) rfl rfl rfl [15, 16] rfl rfl rfl rfl hl rfl rfl (Nat.le_of_ble_eq_true rfl) ⟨⟨rfl, rfl⟩, Nat.le_of_ble_eq_true rfl, Nat.le_of_ble_eq_true rfl⟩ ⟨Nat.zero_le _, Nat.zero_le _⟩ dX4_leavesYears_13 (fun H locs hP hD hS => ?_)
        refine lv_aload_n hx hb dX4_leavesYears_16 rfl (lv_at hl 0 rfl) ?_
        refine q_get hx hb hT hown hK hP kw_X4 0 rfl rfl 8 (by decide) kf_X4_41 rfl (v := .ref (ad 20)) rfl dX4_leavesYears_17 ?_
        refine lv_iload_n hx hb dX4_leavesYears_20 rfl (lv_at hl 1 rfl) ?_
        refine q_callI (As := [.int (nI k)]) (r := g 20 k) (wc := rowW cA (ad 20) (ad 50) 16 (g 20)) (w1 := rowW cA (ad 20) (ad 50) 16 (g 20)) (ws1 := yrW cA ad g z) hx hb hml hown hT hK hP hD hS hA (c_X3_atN l D cA (ad 20) (ad 50) 16 (g 20) k (by omega) (by omega)) k_X3_at kl_X4_54 (q0 := 0) rfl rfl rfl [17, 18] rfl rfl rfl rfl hl rfl rfl (Nat.le_of_ble_eq_true rfl) ⟨⟨rfl, rfl⟩, Nat.le_of_ble_eq_true rfl, Nat.le_of_ble_eq_true rfl⟩ ⟨Nat.zero_le _, Nat.zero_le _⟩ dX4_leavesYears_21 (fun H locs hP hD hS => ?_)
        refine lv_icmp_le (tgt := 29) hx hb dX4_leavesYears_24 (by decide) (fun c_24 => ?_) (fun c_24 => ?_)
        · refine lv_iinc (v := nI (k + 1)) (lv' := [(1, .int (nI (k + 1))), (0, .ref (ad 71))]) hx hb dX4_leavesYears_29 hl (k := 1) rfl (q_inc1 _) (by decide) rfl (fun ls hl => ?_)
          refine lv_goto (tgt := 2) hx hb dX4_leavesYears_32 (by decide) ?_
          exact ih2 (k + 1) (by omega) (by omega) (fun j hj => by rcases Nat.lt_or_ge j k with q | q; exact hc j q; rw [show j = k by omega]; exact c_24) _ _ _ hP hD hS (lv_sub hl [1, 0] rfl)
        · refine lv_iconst (v := nI 0) hx hb dX4_leavesYears_27 (by decide +kernel) ?_
          exact q_zret hx hb hr hlk (Or.inl rfl) (by exact q_bf (leB_f (j := k) (by omega) c_24)) hP hS dX4_leavesYears_28
  refine lv_iconst (v := nI 0) hx hb dX4_leavesYears_0 (by decide +kernel) ?_
  refine lv_istore_n (lv' := [(1, .int (nI 0)), (0, .ref (ad 71))]) hx hb dX4_leavesYears_1 rfl hl (by decide) rfl (fun ls hl => ?_)
  exact zqL2 (16 + 1) 0 (by omega) (by omega) (fun _ h => absurd h (Nat.not_lt_zero _)) _ _ _ hP hD hS (lv_sub hl [1, 0] rfl)
abbrev rm_X4_countMoved : Room := { frames := 1, cells := 0, slots := 0, locals := 21 }
set_option maxRecDepth 100000 in
set_option maxHeartbeats 4000000 in
theorem c_X4_countMoved (l : Launch) (D : va_G) (cA : ClassId) (ad : Nat → Nat) (g : Nat → Nat → Int32) (z : Nat → Nat)   : q_CI l yX4_countMoved [Cond.code yX4_countMoved cX4_countMoved 3 (some .int)] rm_X4_countMoved D cA [.ref (ad 71)] (yrW cA ad g z) (nI (mvd (g 19) (g 20) (g 17) (g 18) 16)) (yrW cA ad g z) := by
  refine q_startI RX4 (by decide +kernel) rfl (Nat.le_of_ble_eq_true rfl) ?_
  intro p e s m below meth c A args H locs ls hx hb hr hml hown hT hlk hP hK hD hA hS hl
  have hl : lv_has ls 3 [(0, .ref (ad 71))] := hl
  have zqL4 : ∀ (fu : Nat), ∀ (k : Nat), (16 + 1 ≤ k + fu) → (k ≤ 16) → ∀ (H : Heap) (locs : List Loc) (ls : Array Slot), va_P D vwCl (yrW cA ad g z) H → va_D A (yrW cA ad g z) → va_S A s.heap H locs → lv_has ls 3 [(0, .ref (ad 71)), (1, .int (nI (mvd (g 19) (g 20) (g 17) (g 18) k))), (2, .int (nI k))] → W p l e rm_X4_countMoved s m args below meth c H locs 0 0 (q_GI D (nI (mvd (g 19) (g 20) (g 17) (g 18) 16)) (yrW cA ad g z) A below args s) (F0 m 4 ls []) := by
    intro fu
    induction fu with
    | zero =>
      intro k hfu hk H locs ls hP hD hS hl
      exfalso; omega
    | succ fu ih4 =>
      intro k hfu hk H locs ls hP hD hS hl
      have zqJ51 : (k < 16) → ∀ (H : Heap) (locs : List Loc) (ls : Array Slot), va_P D vwCl (yrW cA ad g z) H → va_D A (yrW cA ad g z) → va_S A s.heap H locs → lv_has ls 3 [(0, .ref (ad 71)), (1, .int (nI (mvd (g 19) (g 20) (g 17) (g 18) (k + 1)))), (2, .int (nI k))] → W p l e rm_X4_countMoved s m args below meth c H locs 0 0 (q_GI D (nI (mvd (g 19) (g 20) (g 17) (g 18) 16)) (yrW cA ad g z) A below args s) (F0 m 51 ls []) := by
        intro  hk9 H locs ls hP hD hS hl
        refine lv_iinc (v := nI (k + 1)) (lv' := [(2, .int (nI (k + 1))), (0, .ref (ad 71)), (1, .int (nI (mvd (g 19) (g 20) (g 17) (g 18) (k + 1))))]) hx hb dX4_countMoved_51 hl (k := 2) rfl (q_inc1 _) (by decide) rfl (fun ls hl => ?_)
        refine lv_goto (tgt := 4) hx hb dX4_countMoved_54 (by decide) ?_
        exact ih4 (k + 1) (by omega) (by omega) _ _ _ hP hD hS (lv_sub hl [1, 2, 0] rfl)
      refine lv_iload_n hx hb dX4_countMoved_4 rfl (lv_at hl 2 rfl) ?_
      refine lv_bipush (v := nI 16) hx hb dX4_countMoved_5 (by decide +kernel) ?_
      refine lv_icmp_ge (tgt := 57) hx hb dX4_countMoved_7 (by decide) (fun c_7 => ?_) (fun c_7 => ?_)
      · have c_7 := nI_le1 (a := 16) (b := k) (by omega) (by omega) c_7
        refine lv_iload_n hx hb dX4_countMoved_57 rfl (lv_at hl 1 rfl) ?_
        exact q_iret hx hb hr hlk (by rw [show k = 16 by omega]) hP hS dX4_countMoved_58
      · have c_7 := nI_le0 (a := 16) (b := k) (by omega) (by omega) c_7
        refine lv_aload_n hx hb dX4_countMoved_10 rfl (lv_at hl 0 rfl) ?_
        refine q_get hx hb hT hown hK hP kw_X4 0 rfl rfl 7 (by decide) kf_X4_38 rfl (v := .ref (ad 19)) rfl dX4_countMoved_11 ?_
        refine lv_iload_n hx hb dX4_countMoved_14 rfl (lv_at hl 2 rfl) ?_
        refine q_callI (As := [.int (nI k)]) (r := g 19 k) (wc := rowW cA (ad 19) (ad 49) 16 (g 19)) (w1 := rowW cA (ad 19) (ad 49) 16 (g 19)) (ws1 := yrW cA ad g z) hx hb hml hown hT hK hP hD hS hA (c_X3_atN l D cA (ad 19) (ad 49) 16 (g 19) k (by omega) (by omega)) k_X3_at kl_X4_54 (q0 := 0) rfl rfl rfl [15, 16] rfl rfl rfl rfl hl rfl rfl (Nat.le_of_ble_eq_true rfl) ⟨⟨rfl, rfl⟩, Nat.le_of_ble_eq_true rfl, Nat.le_of_ble_eq_true rfl⟩ ⟨Nat.zero_le _, Nat.zero_le _⟩ dX4_countMoved_15 (fun H locs hP hD hS => ?_)
        refine lv_aload_n hx hb dX4_countMoved_18 rfl (lv_at hl 0 rfl) ?_
        refine q_get hx hb hT hown hK hP kw_X4 0 rfl rfl 5 (by decide) kf_X4_32 rfl (v := .ref (ad 17)) rfl dX4_countMoved_19 ?_
        refine lv_iload_n hx hb dX4_countMoved_22 rfl (lv_at hl 2 rfl) ?_
        refine q_callI (As := [.int (nI k)]) (r := g 17 k) (wc := rowW cA (ad 17) (ad 47) 16 (g 17)) (w1 := rowW cA (ad 17) (ad 47) 16 (g 17)) (ws1 := yrW cA ad g z) hx hb hml hown hT hK hP hD hS hA (c_X3_atN l D cA (ad 17) (ad 47) 16 (g 17) k (by omega) (by omega)) k_X3_at kl_X4_54 (q0 := 0) rfl rfl rfl [11, 12] rfl rfl rfl rfl hl rfl rfl (Nat.le_of_ble_eq_true rfl) ⟨⟨rfl, rfl⟩, Nat.le_of_ble_eq_true rfl, Nat.le_of_ble_eq_true rfl⟩ ⟨Nat.zero_le _, Nat.zero_le _⟩ dX4_countMoved_23 (fun H locs hP hD hS => ?_)
        refine lv_icmp_ne (tgt := 48) hx hb dX4_countMoved_26 (by decide) (fun c_26 => ?_) (fun c_26 => ?_)
        · refine lv_iinc (v := nI ((mvd (g 19) (g 20) (g 17) (g 18) k) + 1)) (lv' := [(1, .int (nI ((mvd (g 19) (g 20) (g 17) (g 18) k) + 1))), (0, .ref (ad 71)), (2, .int (nI k))]) hx hb dX4_countMoved_48 hl (k := 1) rfl (q_inc1 _) (by decide) rfl (fun ls hl => ?_)
          have e9_0 : (nI ((mvd (g 19) (g 20) (g 17) (g 18) k) + 1)) = (nI (mvd (g 19) (g 20) (g 17) (g 18) (k + 1))) := by first | with_reducible rfl | (first | rw [mvd_s c_26 c_45] | rw [mvd_n (fun h => c_26 h.1)] | rw [mvd_n (fun h => c_45 h.2)])
          have hl9 : lv_has ls 3 [(0, .ref (ad 71)), (1, .int (nI (mvd (g 19) (g 20) (g 17) (g 18) (k + 1)))), (2, .int (nI k))] := lv_cast (l := [(0, .ref (ad 71)), (1, .int (nI ((mvd (g 19) (g 20) (g 17) (g 18) k) + 1))), (2, .int (nI k))]) (lv_sub hl [1, 0, 2] rfl) (congrArg (fun v9 : Int32 => ([(0, .ref (ad 71)), (1, .int v9), (2, .int (nI k))] : List (Nat × Value))) e9_0)
          exact zqJ51  (by omega) _ _ _ hP hD hS hl9
        · refine lv_aload_n hx hb dX4_countMoved_29 rfl (lv_at hl 0 rfl) ?_
          refine q_get hx hb hT hown hK hP kw_X4 0 rfl rfl 8 (by decide) kf_X4_41 rfl (v := .ref (ad 20)) rfl dX4_countMoved_30 ?_
          refine lv_iload_n hx hb dX4_countMoved_33 rfl (lv_at hl 2 rfl) ?_
          refine q_callI (As := [.int (nI k)]) (r := g 20 k) (wc := rowW cA (ad 20) (ad 50) 16 (g 20)) (w1 := rowW cA (ad 20) (ad 50) 16 (g 20)) (ws1 := yrW cA ad g z) hx hb hml hown hT hK hP hD hS hA (c_X3_atN l D cA (ad 20) (ad 50) 16 (g 20) k (by omega) (by omega)) k_X3_at kl_X4_54 (q0 := 0) rfl rfl rfl [17, 18] rfl rfl rfl rfl hl rfl rfl (Nat.le_of_ble_eq_true rfl) ⟨⟨rfl, rfl⟩, Nat.le_of_ble_eq_true rfl, Nat.le_of_ble_eq_true rfl⟩ ⟨Nat.zero_le _, Nat.zero_le _⟩ dX4_countMoved_34 (fun H locs hP hD hS => ?_)
          refine lv_aload_n hx hb dX4_countMoved_37 rfl (lv_at hl 0 rfl) ?_
          refine q_get hx hb hT hown hK hP kw_X4 0 rfl rfl 6 (by decide) kf_X4_35 rfl (v := .ref (ad 18)) rfl dX4_countMoved_38 ?_
          refine lv_iload_n hx hb dX4_countMoved_41 rfl (lv_at hl 2 rfl) ?_
          refine q_callI (As := [.int (nI k)]) (r := g 18 k) (wc := rowW cA (ad 18) (ad 48) 16 (g 18)) (w1 := rowW cA (ad 18) (ad 48) 16 (g 18)) (ws1 := yrW cA ad g z) hx hb hml hown hT hK hP hD hS hA (c_X3_atN l D cA (ad 18) (ad 48) 16 (g 18) k (by omega) (by omega)) k_X3_at kl_X4_54 (q0 := 0) rfl rfl rfl [13, 14] rfl rfl rfl rfl hl rfl rfl (Nat.le_of_ble_eq_true rfl) ⟨⟨rfl, rfl⟩, Nat.le_of_ble_eq_true rfl, Nat.le_of_ble_eq_true rfl⟩ ⟨Nat.zero_le _, Nat.zero_le _⟩ dX4_countMoved_42 (fun H locs hP hD hS => ?_)
          refine lv_icmp_eq (tgt := 51) hx hb dX4_countMoved_45 (by decide) (fun c_45 => ?_) (fun c_45 => ?_)
          · have e9_0 : (nI (mvd (g 19) (g 20) (g 17) (g 18) k)) = (nI (mvd (g 19) (g 20) (g 17) (g 18) (k + 1))) := by first | with_reducible rfl | (first | rw [mvd_s c_26 c_45] | rw [mvd_n (fun h => c_26 h.1)] | rw [mvd_n (fun h => c_45 h.2)])
            have hl9 : lv_has ls 3 [(0, .ref (ad 71)), (1, .int (nI (mvd (g 19) (g 20) (g 17) (g 18) (k + 1)))), (2, .int (nI k))] := lv_cast (l := [(0, .ref (ad 71)), (1, .int (nI (mvd (g 19) (g 20) (g 17) (g 18) k))), (2, .int (nI k))]) (lv_sub hl [0, 1, 2] rfl) (congrArg (fun v9 : Int32 => ([(0, .ref (ad 71)), (1, .int v9), (2, .int (nI k))] : List (Nat × Value))) e9_0)
            exact zqJ51  (by omega) _ _ _ hP hD hS hl9
          · refine lv_iinc (v := nI ((mvd (g 19) (g 20) (g 17) (g 18) k) + 1)) (lv' := [(1, .int (nI ((mvd (g 19) (g 20) (g 17) (g 18) k) + 1))), (0, .ref (ad 71)), (2, .int (nI k))]) hx hb dX4_countMoved_48 hl (k := 1) rfl (q_inc1 _) (by decide) rfl (fun ls hl => ?_)
            have e9_0 : (nI ((mvd (g 19) (g 20) (g 17) (g 18) k) + 1)) = (nI (mvd (g 19) (g 20) (g 17) (g 18) (k + 1))) := by first | with_reducible rfl | (first | rw [mvd_s c_26 c_45] | rw [mvd_n (fun h => c_26 h.1)] | rw [mvd_n (fun h => c_45 h.2)])
            have hl9 : lv_has ls 3 [(0, .ref (ad 71)), (1, .int (nI (mvd (g 19) (g 20) (g 17) (g 18) (k + 1)))), (2, .int (nI k))] := lv_cast (l := [(0, .ref (ad 71)), (1, .int (nI ((mvd (g 19) (g 20) (g 17) (g 18) k) + 1))), (2, .int (nI k))]) (lv_sub hl [1, 0, 2] rfl) (congrArg (fun v9 : Int32 => ([(0, .ref (ad 71)), (1, .int v9), (2, .int (nI k))] : List (Nat × Value))) e9_0)
            exact zqJ51  (by omega) _ _ _ hP hD hS hl9
  refine lv_iconst (v := nI 0) hx hb dX4_countMoved_0 (by decide +kernel) ?_
  refine lv_istore_n (lv' := [(1, .int (nI 0)), (0, .ref (ad 71))]) hx hb dX4_countMoved_1 rfl hl (by decide) rfl (fun ls hl => ?_)
  refine lv_iconst (v := nI 0) hx hb dX4_countMoved_2 (by decide +kernel) ?_
  refine lv_istore_n (lv' := [(2, .int (nI 0)), (1, .int (nI 0)), (0, .ref (ad 71))]) hx hb dX4_countMoved_3 rfl hl (by decide) rfl (fun ls hl => ?_)
  have e9_0 : (nI 0) = (nI (mvd (g 19) (g 20) (g 17) (g 18) 0)) := by first | with_reducible rfl | (rfl)
  have hl9 : lv_has ls 3 [(0, .ref (ad 71)), (1, .int (nI (mvd (g 19) (g 20) (g 17) (g 18) 0))), (2, .int (nI 0))] := lv_cast (l := [(0, .ref (ad 71)), (1, .int (nI 0)), (2, .int (nI 0))]) (lv_sub hl [2, 1, 0] rfl) (congrArg (fun v9 : Int32 => ([(0, .ref (ad 71)), (1, .int v9), (2, .int (nI 0))] : List (Nat × Value))) e9_0)
  exact zqL4 (16 + 1) 0 (by omega) (by omega) _ _ _ hP hD hS hl9
abbrev rm_X4_tryDating : Room := { frames := 3, cells := 0, slots := 0, locals := 69 }
set_option maxRecDepth 100000 in
set_option maxHeartbeats 4000000 in
theorem c_X4_tryDating (l : Launch) (D : va_G) (cA : ClassId) (ad : Nat → Nat) (g : Nat → Nat → Int32) (z : Nat → Nat)  (hE : ∀ k, k < (z 1) → q_r ((g 14) k) 16 ∧ q_r ((g 15) k) 16) (ht : (z 1) ≤ 40) : q_CI l yX4_tryDating [Cond.code yX4_tryDating cX4_tryDating 1 (some .int)] rm_X4_tryDating D cA [.ref (ad 71)] (yrW cA ad g z) (vd (dOK (g 14) (g 15) (g 16) (g 12) (g 13) (z 1)) (dMV (g 14) (g 15) (g 16) (g 12) (g 13) (g 17) (g 18) (z 1))) (yrW cA ad (gs (gs g 19 (itF (g 14) (g 15) (g 16) (g 12) (z 1) 16)) 20 (itL (g 14) (g 15) (g 16) (g 13) (z 1) 16)) z) := by
  refine q_startI RX4 (by decide +kernel) rfl (Nat.le_of_ble_eq_true rfl) ?_
  intro p e s m below meth c A args H locs ls hx hb hr hml hown hT hlk hP hK hD hA hS hl
  have hl : lv_has ls 1 [(0, .ref (ad 71))] := hl
  refine lv_aload_n hx hb dX4_tryDating_0 rfl (lv_at hl 0 rfl) ?_
  refine q_get hx hb hT hown hK hP kw_X4 0 rfl rfl 7 (by decide) kf_X4_38 rfl (v := .ref (ad 19)) rfl dX4_tryDating_1 ?_
  refine lv_aload_n hx hb dX4_tryDating_4 rfl (lv_at hl 0 rfl) ?_
  refine q_get hx hb hT hown hK hP kw_X4 0 rfl rfl 0 (by decide) kf_X4_14 rfl (v := .ref (ad 12)) rfl dX4_tryDating_5 ?_
  refine q_callV (As := [.ref (ad 12)]) (wc := row2W cA (ad 19) (ad 49) (ad 12) (ad 42) 16 (g 19) (g 12)) (w1 := row2W cA (ad 19) (ad 49) (ad 12) (ad 42) 16 (g 12) (g 12)) (ws1 := yrW cA ad (gs g 19 (g 12)) z) hx hb hml hown hT hK hP hD hS hA (c_X3_copyFrom l D cA (ad 19) (ad 49) (ad 12) (ad 42) 16 (g 19) (g 12) (by omega)) k_X3_copyFrom kl_X4_82 (q0 := 0) rfl rfl rfl [15, 16, 1, 2] rfl rfl rfl rfl hl rfl rfl (Nat.le_of_ble_eq_true rfl) ⟨⟨rfl, rfl⟩, Nat.le_of_ble_eq_true rfl, Nat.le_of_ble_eq_true rfl⟩ ⟨Nat.zero_le _, Nat.zero_le _⟩ dX4_tryDating_8 (fun H locs hP hD hS => ?_)
  refine lv_aload_n hx hb dX4_tryDating_11 rfl (lv_at hl 0 rfl) ?_
  refine q_get hx hb hT hown hK hP kw_X4 0 rfl rfl 8 (by decide) kf_X4_41 rfl (v := .ref (ad 20)) rfl dX4_tryDating_12 ?_
  refine lv_aload_n hx hb dX4_tryDating_15 rfl (lv_at hl 0 rfl) ?_
  refine q_get hx hb hT hown hK hP kw_X4 0 rfl rfl 1 (by decide) kf_X4_20 rfl (v := .ref (ad 13)) rfl dX4_tryDating_16 ?_
  refine q_callV (As := [.ref (ad 13)]) (wc := row2W cA (ad 20) (ad 50) (ad 13) (ad 43) 16 (g 20) (g 13)) (w1 := row2W cA (ad 20) (ad 50) (ad 13) (ad 43) 16 (g 13) (g 13)) (ws1 := yrW cA ad (gs (gs g 19 (g 12)) 20 (g 13)) z) hx hb hml hown hT hK hP hD hS hA (c_X3_copyFrom l D cA (ad 20) (ad 50) (ad 13) (ad 43) 16 (g 20) (g 13) (by omega)) k_X3_copyFrom kl_X4_82 (q0 := 0) rfl rfl rfl [17, 18, 3, 4] rfl rfl rfl rfl hl rfl rfl (Nat.le_of_ble_eq_true rfl) ⟨⟨rfl, rfl⟩, Nat.le_of_ble_eq_true rfl, Nat.le_of_ble_eq_true rfl⟩ ⟨Nat.zero_le _, Nat.zero_le _⟩ dX4_tryDating_19 (fun H locs hP hD hS => ?_)
  refine lv_aload_n hx hb dX4_tryDating_22 rfl (lv_at hl 0 rfl) ?_
  refine q_callIW (As := []) (r := q_b (itR (g 14) (g 15) (g 16) (g 12) (g 13) (z 1))) (w1 := yrW cA ad (gs (gs g 19 (itF (g 14) (g 15) (g 16) (g 12) (z 1) 16)) 20 (itL (g 14) (g 15) (g 16) (g 13) (z 1) 16)) z) hx hb hml hown hT hK hP hD hS hA (c_X4_comesToRest l D cA ad (gs (gs g 19 (g 12)) 20 (g 13)) z hE (show (z 1) ≤ 40 by omega)) k_X4_comesToRest kl_X4_86 (q0 := 0) rfl rfl rfl ((yrW_adr _ _ _ _).trans (yrW_adr _ _ _ _).symm) hl rfl rfl (Nat.le_of_ble_eq_true rfl) ⟨⟨rfl, rfl⟩, Nat.le_of_ble_eq_true rfl, Nat.le_of_ble_eq_true rfl⟩ ⟨Nat.zero_le _, Nat.zero_le _⟩ dX4_tryDating_23 (fun H locs hP hD hS => ?_)
  obtain ⟨nF23_19, enF23_19⟩ : ∃ y : Nat → Int32, y = itF (g 14) (g 15) (g 16) (g 12) (z 1) 16 := ⟨_, rfl⟩
  have hP : va_P D vwCl (yrW cA ad (gs (gs g 19 nF23_19) 20 (itL (g 14) (g 15) (g 16) (g 13) (z 1) 16)) z) H := by rw [enF23_19]; exact hP
  have hD : va_D A (yrW cA ad (gs (gs g 19 nF23_19) 20 (itL (g 14) (g 15) (g 16) (g 13) (z 1) 16)) z) := by rw [enF23_19]; exact hD
  obtain ⟨nF23_20, enF23_20⟩ : ∃ y : Nat → Int32, y = itL (g 14) (g 15) (g 16) (g 13) (z 1) 16 := ⟨_, rfl⟩
  have hP : va_P D vwCl (yrW cA ad (gs (gs g 19 nF23_19) 20 nF23_20) z) H := by rw [enF23_20]; exact hP
  have hD : va_D A (yrW cA ad (gs (gs g 19 nF23_19) 20 nF23_20) z) := by rw [enF23_20]; exact hD
  refine lv_if_eq (tgt := 43) hx hb dX4_tryDating_26 (by decide) (fun c_26 => ?_) (fun c_26 => ?_)
  · have c_26 := q_b0e c_26
    refine lv_iconst (v := (-1)) hx hb dX4_tryDating_43 (by decide +kernel) ?_
    rw [enF23_20] at hP hD
    rw [enF23_19] at hP hD
    exact q_iret hx hb hr hlk (by first | exact vd_f (dOK_f1 c_26) | (rw [enF23_19, enF23_20] at c_33; first | exact vd_t (dOK_t c_26 c_33) | exact vd_f (dOK_f2 c_33))) hP hS dX4_tryDating_44
  · have c_26 := q_b0n c_26
    refine lv_aload_n hx hb dX4_tryDating_29 rfl (lv_at hl 0 rfl) ?_
    refine q_callIW (As := []) (r := q_b (leB nF23_19 nF23_20 16)) (w1 := yrW cA ad (gs (gs g 19 nF23_19) 20 nF23_20) z) hx hb hml hown hT hK hP hD hS hA (c_X4_leavesYears l D cA ad (gs (gs g 19 nF23_19) 20 nF23_20) z) k_X4_leavesYears kl_X4_90 (q0 := 0) rfl rfl rfl ((yrW_adr _ _ _ _).trans (yrW_adr _ _ _ _).symm) hl rfl rfl (Nat.le_of_ble_eq_true rfl) ⟨⟨rfl, rfl⟩, Nat.le_of_ble_eq_true rfl, Nat.le_of_ble_eq_true rfl⟩ ⟨Nat.zero_le _, Nat.zero_le _⟩ dX4_tryDating_30 (fun H locs hP hD hS => ?_)
    refine lv_if_eq (tgt := 43) hx hb dX4_tryDating_33 (by decide) (fun c_33 => ?_) (fun c_33 => ?_)
    · have c_33 := q_b0e c_33
      refine lv_iconst (v := (-1)) hx hb dX4_tryDating_43 (by decide +kernel) ?_
      rw [enF23_20] at hP hD
      rw [enF23_19] at hP hD
      exact q_iret hx hb hr hlk (by first | exact vd_f (dOK_f1 c_26) | (rw [enF23_19, enF23_20] at c_33; first | exact vd_t (dOK_t c_26 c_33) | exact vd_f (dOK_f2 c_33))) hP hS dX4_tryDating_44
    · have c_33 := q_b0n c_33
      refine lv_aload_n hx hb dX4_tryDating_36 rfl (lv_at hl 0 rfl) ?_
      refine q_callIW (As := []) (r := nI (mvd nF23_19 nF23_20 (g 17) (g 18) 16)) (w1 := yrW cA ad (gs (gs g 19 nF23_19) 20 nF23_20) z) hx hb hml hown hT hK hP hD hS hA (c_X4_countMoved l D cA ad (gs (gs g 19 nF23_19) 20 nF23_20) z) k_X4_countMoved kl_X4_93 (q0 := 0) rfl rfl rfl ((yrW_adr _ _ _ _).trans (yrW_adr _ _ _ _).symm) hl rfl rfl (Nat.le_of_ble_eq_true rfl) ⟨⟨rfl, rfl⟩, Nat.le_of_ble_eq_true rfl, Nat.le_of_ble_eq_true rfl⟩ ⟨Nat.zero_le _, Nat.zero_le _⟩ dX4_tryDating_37 (fun H locs hP hD hS => ?_)
      refine lv_goto (tgt := 44) hx hb dX4_tryDating_40 (by decide) ?_
      rw [enF23_20] at hP hD
      rw [enF23_20]
      rw [enF23_19] at hP hD
      rw [enF23_19]
      exact q_iret hx hb hr hlk (by first | exact vd_f (dOK_f1 c_26) | (rw [enF23_19, enF23_20] at c_33; first | exact vd_t (dOK_t c_26 c_33) | exact vd_f (dOK_f2 c_33))) hP hS dX4_tryDating_44
abbrev rm_X4_keepTried : Room := { frames := 2, cells := 0, slots := 0, locals := 43 }
set_option maxRecDepth 100000 in
set_option maxHeartbeats 4000000 in
theorem c_X4_keepTried (l : Launch) (D : va_G) (cA : ClassId) (ad : Nat → Nat) (g : Nat → Nat → Int32) (z : Nat → Nat)   : q_CV l yX4_keepTried [Cond.code yX4_keepTried cX4_keepTried 1 none] rm_X4_keepTried D cA [.ref (ad 71)] (yrW cA ad g z) (yrW cA ad (gs (gs g 17 (g 19)) 18 (g 20)) z) := by
  refine q_startV RX4 (by decide +kernel) rfl (Nat.le_of_ble_eq_true rfl) ?_
  intro p e s m below meth c A args H locs ls hx hb hr hml hown hT hlk hP hK hD hA hS hl
  have hl : lv_has ls 1 [(0, .ref (ad 71))] := hl
  refine lv_aload_n hx hb dX4_keepTried_0 rfl (lv_at hl 0 rfl) ?_
  refine q_get hx hb hT hown hK hP kw_X4 0 rfl rfl 5 (by decide) kf_X4_32 rfl (v := .ref (ad 17)) rfl dX4_keepTried_1 ?_
  refine lv_aload_n hx hb dX4_keepTried_4 rfl (lv_at hl 0 rfl) ?_
  refine q_get hx hb hT hown hK hP kw_X4 0 rfl rfl 7 (by decide) kf_X4_38 rfl (v := .ref (ad 19)) rfl dX4_keepTried_5 ?_
  refine q_callV (As := [.ref (ad 19)]) (wc := row2W cA (ad 17) (ad 47) (ad 19) (ad 49) 16 (g 17) (g 19)) (w1 := row2W cA (ad 17) (ad 47) (ad 19) (ad 49) 16 (g 19) (g 19)) (ws1 := yrW cA ad (gs g 17 (g 19)) z) hx hb hml hown hT hK hP hD hS hA (c_X3_copyFrom l D cA (ad 17) (ad 47) (ad 19) (ad 49) 16 (g 17) (g 19) (by omega)) k_X3_copyFrom kl_X4_82 (q0 := 0) rfl rfl rfl [11, 12, 15, 16] rfl rfl rfl rfl hl rfl rfl (Nat.le_of_ble_eq_true rfl) ⟨⟨rfl, rfl⟩, Nat.le_of_ble_eq_true rfl, Nat.le_of_ble_eq_true rfl⟩ ⟨Nat.zero_le _, Nat.zero_le _⟩ dX4_keepTried_8 (fun H locs hP hD hS => ?_)
  refine lv_aload_n hx hb dX4_keepTried_11 rfl (lv_at hl 0 rfl) ?_
  refine q_get hx hb hT hown hK hP kw_X4 0 rfl rfl 6 (by decide) kf_X4_35 rfl (v := .ref (ad 18)) rfl dX4_keepTried_12 ?_
  refine lv_aload_n hx hb dX4_keepTried_15 rfl (lv_at hl 0 rfl) ?_
  refine q_get hx hb hT hown hK hP kw_X4 0 rfl rfl 8 (by decide) kf_X4_41 rfl (v := .ref (ad 20)) rfl dX4_keepTried_16 ?_
  refine q_callV (As := [.ref (ad 20)]) (wc := row2W cA (ad 18) (ad 48) (ad 20) (ad 50) 16 (g 18) (g 20)) (w1 := row2W cA (ad 18) (ad 48) (ad 20) (ad 50) 16 (g 20) (g 20)) (ws1 := yrW cA ad (gs (gs g 17 (g 19)) 18 (g 20)) z) hx hb hml hown hT hK hP hD hS hA (c_X3_copyFrom l D cA (ad 18) (ad 48) (ad 20) (ad 50) 16 (g 18) (g 20) (by omega)) k_X3_copyFrom kl_X4_82 (q0 := 0) rfl rfl rfl [13, 14, 17, 18] rfl rfl rfl rfl hl rfl rfl (Nat.le_of_ble_eq_true rfl) ⟨⟨rfl, rfl⟩, Nat.le_of_ble_eq_true rfl, Nat.le_of_ble_eq_true rfl⟩ ⟨Nat.zero_le _, Nat.zero_le _⟩ dX4_keepTried_19 (fun H locs hP hD hS => ?_)
  exact q_vret hx hb hr hlk hP hS dX4_keepTried_22
end
section
abbrev rm_X4_tellAhead : Room := { frames := 4, cells := 0, slots := 0, locals := 89 }
set_option maxRecDepth 100000 in
set_option maxHeartbeats 4000000 in
theorem c_X4_tellAhead (l : Launch) (D : va_G) (cA : ClassId) (ad : Nat → Nat) (g : Nat → Nat → Int32) (z : Nat → Nat) (i : Nat) (j : Nat) (w : Int32) (hi : i < 16) (hj : j < 16) (hE : ∀ k, k < (z 1) → q_r ((g 14) k) 16 ∧ q_r ((g 15) k) 16) (ht : (z 1) < 40) : q_CI l yX4_tellAhead [Cond.code yX4_tellAhead cX4_tellAhead 5 (some .int)] rm_X4_tellAhead D cA [.ref (ad 71), .int (nI i), .int (nI j), .int w] (yrW cA ad g z) (vd (dOK (upd (g 14) (z 1) (nI i)) (upd (g 15) (z 1) (nI j)) (upd (g 16) (z 1) w) (g 12) (g 13) ((z 1) + 1)) (dMV (upd (g 14) (z 1) (nI i)) (upd (g 15) (z 1) (nI j)) (upd (g 16) (z 1) w) (g 12) (g 13) (g 17) (g 18) ((z 1) + 1))) (yrW cA ad (gs (gs (gs (gs (gs (gs (gs g 14 (upd (g 14) (z 1) (nI i))) 15 (upd (g 15) (z 1) (nI j))) 16 (upd (g 16) (z 1) w)) 17 (bif dOK (upd (g 14) (z 1) (nI i)) (upd (g 15) (z 1) (nI j)) (upd (g 16) (z 1) w) (g 12) (g 13) ((z 1) + 1) then itF (upd (g 14) (z 1) (nI i)) (upd (g 15) (z 1) (nI j)) (upd (g 16) (z 1) w) (g 12) ((z 1) + 1) 16 else (g 17))) 18 (bif dOK (upd (g 14) (z 1) (nI i)) (upd (g 15) (z 1) (nI j)) (upd (g 16) (z 1) w) (g 12) (g 13) ((z 1) + 1) then itL (upd (g 14) (z 1) (nI i)) (upd (g 15) (z 1) (nI j)) (upd (g 16) (z 1) w) (g 13) ((z 1) + 1) 16 else (g 18))) 19 (itF (upd (g 14) (z 1) (nI i)) (upd (g 15) (z 1) (nI j)) (upd (g 16) (z 1) w) (g 12) ((z 1) + 1) 16)) 20 (itL (upd (g 14) (z 1) (nI i)) (upd (g 15) (z 1) (nI j)) (upd (g 16) (z 1) w) (g 13) ((z 1) + 1) 16)) (zs z 1 (bif dOK (upd (g 14) (z 1) (nI i)) (upd (g 15) (z 1) (nI j)) (upd (g 16) (z 1) w) (g 12) (g 13) ((z 1) + 1) then (z 1) + 1 else (z 1)))) := by
  refine q_startI RX4 (by decide +kernel) rfl (Nat.le_of_ble_eq_true rfl) ?_
  intro p e s m below meth c A args H locs ls hx hb hr hml hown hT hlk hP hK hD hA hS hl
  have hl : lv_has ls 5 [(0, .ref (ad 71)), (1, .int (nI i)), (2, .int (nI j)), (3, .int w)] := hl
  refine lv_aload_n hx hb dX4_tellAhead_0 rfl (lv_at hl 0 rfl) ?_
  refine q_get hx hb hT hown hK hP kw_X4 0 rfl rfl 2 (by decide) kf_X4_23 rfl (v := .ref (ad 14)) rfl dX4_tellAhead_1 ?_
  refine lv_aload_n hx hb dX4_tellAhead_4 rfl (lv_at hl 0 rfl) ?_
  refine q_get hx hb hT hown hK hP kw_X4 0 rfl rfl 10 (by decide) kf_X4_50 rfl (v := .int (nI (z 1))) rfl dX4_tellAhead_5 ?_
  refine lv_iload_n hx hb dX4_tellAhead_8 rfl (lv_at hl 1 rfl) ?_
  refine q_callV (As := [.int (nI (z 1)), .int (nI i)]) (wc := rowW cA (ad 14) (ad 44) 40 (g 14)) (w1 := rowW cA (ad 14) (ad 44) 40 (upd (g 14) (z 1) (nI i))) (ws1 := yrW cA ad (gs g 14 (upd (g 14) (z 1) (nI i))) z) hx hb hml hown hT hK hP hD hS hA (c_X3_putN l D cA (ad 14) (ad 44) 40 (g 14) (z 1) (nI i) (by omega) (by omega)) k_X3_put kl_X4_58 (q0 := 0) rfl rfl rfl [5, 6] rfl rfl rfl rfl hl rfl rfl (Nat.le_of_ble_eq_true rfl) ⟨⟨rfl, rfl⟩, Nat.le_of_ble_eq_true rfl, Nat.le_of_ble_eq_true rfl⟩ ⟨Nat.zero_le _, Nat.zero_le _⟩ dX4_tellAhead_9 (fun H locs hP hD hS => ?_)
  obtain ⟨nF9_14, enF9_14⟩ : ∃ y : Nat → Int32, y = upd (g 14) (z 1) (nI i) := ⟨_, rfl⟩
  have hP : va_P D vwCl (yrW cA ad (gs g 14 nF9_14) z) H := by rw [enF9_14]; exact hP
  have hD : va_D A (yrW cA ad (gs g 14 nF9_14) z) := by rw [enF9_14]; exact hD
  refine lv_aload_n hx hb dX4_tellAhead_12 rfl (lv_at hl 0 rfl) ?_
  refine q_get hx hb hT hown hK hP kw_X4 0 rfl rfl 3 (by decide) kf_X4_26 rfl (v := .ref (ad 15)) rfl dX4_tellAhead_13 ?_
  refine lv_aload_n hx hb dX4_tellAhead_16 rfl (lv_at hl 0 rfl) ?_
  refine q_get hx hb hT hown hK hP kw_X4 0 rfl rfl 10 (by decide) kf_X4_50 rfl (v := .int (nI (z 1))) rfl dX4_tellAhead_17 ?_
  refine lv_iload_n hx hb dX4_tellAhead_20 rfl (lv_at hl 2 rfl) ?_
  refine q_callV (As := [.int (nI (z 1)), .int (nI j)]) (wc := rowW cA (ad 15) (ad 45) 40 (g 15)) (w1 := rowW cA (ad 15) (ad 45) 40 (upd (g 15) (z 1) (nI j))) (ws1 := yrW cA ad (gs (gs g 14 nF9_14) 15 (upd (g 15) (z 1) (nI j))) z) hx hb hml hown hT hK hP hD hS hA (c_X3_putN l D cA (ad 15) (ad 45) 40 (g 15) (z 1) (nI j) (by omega) (by omega)) k_X3_put kl_X4_58 (q0 := 0) rfl rfl rfl [7, 8] rfl rfl rfl rfl hl rfl rfl (Nat.le_of_ble_eq_true rfl) ⟨⟨rfl, rfl⟩, Nat.le_of_ble_eq_true rfl, Nat.le_of_ble_eq_true rfl⟩ ⟨Nat.zero_le _, Nat.zero_le _⟩ dX4_tellAhead_21 (fun H locs hP hD hS => ?_)
  obtain ⟨nF21_15, enF21_15⟩ : ∃ y : Nat → Int32, y = upd (g 15) (z 1) (nI j) := ⟨_, rfl⟩
  have hP : va_P D vwCl (yrW cA ad (gs (gs g 14 nF9_14) 15 nF21_15) z) H := by rw [enF21_15]; exact hP
  have hD : va_D A (yrW cA ad (gs (gs g 14 nF9_14) 15 nF21_15) z) := by rw [enF21_15]; exact hD
  refine lv_aload_n hx hb dX4_tellAhead_24 rfl (lv_at hl 0 rfl) ?_
  refine q_get hx hb hT hown hK hP kw_X4 0 rfl rfl 4 (by decide) kf_X4_29 rfl (v := .ref (ad 16)) rfl dX4_tellAhead_25 ?_
  refine lv_aload_n hx hb dX4_tellAhead_28 rfl (lv_at hl 0 rfl) ?_
  refine q_get hx hb hT hown hK hP kw_X4 0 rfl rfl 10 (by decide) kf_X4_50 rfl (v := .int (nI (z 1))) rfl dX4_tellAhead_29 ?_
  refine lv_iload_n hx hb dX4_tellAhead_32 rfl (lv_at hl 3 rfl) ?_
  refine q_callV (As := [.int (nI (z 1)), .int w]) (wc := rowW cA (ad 16) (ad 46) 40 (g 16)) (w1 := rowW cA (ad 16) (ad 46) 40 (upd (g 16) (z 1) w)) (ws1 := yrW cA ad (gs (gs (gs g 14 nF9_14) 15 nF21_15) 16 (upd (g 16) (z 1) w)) z) hx hb hml hown hT hK hP hD hS hA (c_X3_putN l D cA (ad 16) (ad 46) 40 (g 16) (z 1) w (by omega) (by omega)) k_X3_put kl_X4_58 (q0 := 0) rfl rfl rfl [9, 10] rfl rfl rfl rfl hl rfl rfl (Nat.le_of_ble_eq_true rfl) ⟨⟨rfl, rfl⟩, Nat.le_of_ble_eq_true rfl, Nat.le_of_ble_eq_true rfl⟩ ⟨Nat.zero_le _, Nat.zero_le _⟩ dX4_tellAhead_33 (fun H locs hP hD hS => ?_)
  obtain ⟨nF33_16, enF33_16⟩ : ∃ y : Nat → Int32, y = upd (g 16) (z 1) w := ⟨_, rfl⟩
  have hP : va_P D vwCl (yrW cA ad (gs (gs (gs g 14 nF9_14) 15 nF21_15) 16 nF33_16) z) H := by rw [enF33_16]; exact hP
  have hD : va_D A (yrW cA ad (gs (gs (gs g 14 nF9_14) 15 nF21_15) 16 nF33_16) z) := by rw [enF33_16]; exact hD
  refine lv_aload_n hx hb dX4_tellAhead_36 rfl (lv_at hl 0 rfl) ?_
  refine lv_dup hx hb dX4_tellAhead_37 rfl ?_
  refine q_get hx hb hT hown hK hP kw_X4 0 rfl rfl 10 (by decide) kf_X4_50 rfl (v := .int (nI (z 1))) rfl dX4_tellAhead_38 ?_
  refine lv_iconst (v := nI 1) hx hb dX4_tellAhead_41 (by decide +kernel) ?_
  refine lv_iadd hx hb dX4_tellAhead_42 ?_
  refine q_top (y := nI (z 1 + 1)) (nI_add _ _) ?_
  refine q_put (ty := .int) (ws1 := yrW cA ad (gs (gs (gs g 14 nF9_14) 15 nF21_15) 16 nF33_16) (zs z 1 (z 1 + 1))) hx hb hT hown hK hP hD hS kw_X4 tyX4_ok nmX4 0 rfl rfl 10 (by decide) kf_X4_50 rfl rfl (by decide +kernel) rfl rfl (Nat.le_of_ble_eq_true rfl) rfl dX4_tellAhead_43 (fun H locs hP hD hS => ?_)
  refine lv_aload_n hx hb dX4_tellAhead_46 rfl (lv_at hl 0 rfl) ?_
  refine q_callIW (As := []) (r := vd (dOK nF9_14 nF21_15 nF33_16 (g 12) (g 13) (z 1 + 1)) (dMV nF9_14 nF21_15 nF33_16 (g 12) (g 13) (g 17) (g 18) (z 1 + 1))) (w1 := yrW cA ad (gs (gs (gs (gs (gs g 14 nF9_14) 15 nF21_15) 16 nF33_16) 19 (itF nF9_14 nF21_15 nF33_16 (g 12) (z 1 + 1) 16)) 20 (itL nF9_14 nF21_15 nF33_16 (g 13) (z 1 + 1) 16)) (zs z 1 (z 1 + 1))) hx hb hml hown hT hK hP hD hS hA (c_X4_tryDating l D cA ad (gs (gs (gs g 14 nF9_14) 15 nF21_15) 16 nF33_16) (zs z 1 (z 1 + 1)) (show ∀ k, k < z 1 + 1 → q_r (nF9_14 k) 16 ∧ q_r (nF21_15 k) 16 by rw [enF9_14, enF21_15]; exact hE_add hE hi hj) (show (z 1 + 1) ≤ 40 by omega)) k_X4_tryDating kl_X4_62 (q0 := 0) rfl rfl rfl ((yrW_adr _ _ _ _).trans (yrW_adr _ _ _ _).symm) hl rfl rfl (Nat.le_of_ble_eq_true rfl) ⟨⟨rfl, rfl⟩, Nat.le_of_ble_eq_true rfl, Nat.le_of_ble_eq_true rfl⟩ ⟨Nat.zero_le _, Nat.zero_le _⟩ dX4_tellAhead_47 (fun H locs hP hD hS => ?_)
  obtain ⟨nF47_19, enF47_19⟩ : ∃ y : Nat → Int32, y = itF nF9_14 nF21_15 nF33_16 (g 12) (z 1 + 1) 16 := ⟨_, rfl⟩
  have hP : va_P D vwCl (yrW cA ad (gs (gs (gs (gs (gs g 14 nF9_14) 15 nF21_15) 16 nF33_16) 19 nF47_19) 20 (itL nF9_14 nF21_15 nF33_16 (g 13) (z 1 + 1) 16)) (zs z 1 (z 1 + 1))) H := by rw [enF47_19]; exact hP
  have hD : va_D A (yrW cA ad (gs (gs (gs (gs (gs g 14 nF9_14) 15 nF21_15) 16 nF33_16) 19 nF47_19) 20 (itL nF9_14 nF21_15 nF33_16 (g 13) (z 1 + 1) 16)) (zs z 1 (z 1 + 1))) := by rw [enF47_19]; exact hD
  obtain ⟨nF47_20, enF47_20⟩ : ∃ y : Nat → Int32, y = itL nF9_14 nF21_15 nF33_16 (g 13) (z 1 + 1) 16 := ⟨_, rfl⟩
  have hP : va_P D vwCl (yrW cA ad (gs (gs (gs (gs (gs g 14 nF9_14) 15 nF21_15) 16 nF33_16) 19 nF47_19) 20 nF47_20) (zs z 1 (z 1 + 1))) H := by rw [enF47_20]; exact hP
  have hD : va_D A (yrW cA ad (gs (gs (gs (gs (gs g 14 nF9_14) 15 nF21_15) 16 nF33_16) 19 nF47_19) 20 nF47_20) (zs z 1 (z 1 + 1))) := by rw [enF47_20]; exact hD
  refine lv_istore (lv' := [(4, .int (vd (dOK nF9_14 nF21_15 nF33_16 (g 12) (g 13) (z 1 + 1)) (dMV nF9_14 nF21_15 nF33_16 (g 12) (g 13) (g 17) (g 18) (z 1 + 1)))), (0, .ref (ad 71)), (1, .int (nI i)), (2, .int (nI j)), (3, .int w)]) hx hb dX4_tellAhead_50 hl (by decide) rfl (fun ls hl => ?_)
  refine lv_iload hx hb dX4_tellAhead_52 (lv_at hl 0 rfl) ?_
  refine lv_iconst (v := (-1)) hx hb dX4_tellAhead_54 (by decide +kernel) ?_
  refine lv_icmp_ne (tgt := 71) hx hb dX4_tellAhead_55 (by decide) (fun c_55 => ?_) (fun c_55 => ?_)
  · have d_55 := vd_ok c_55
    refine lv_aload_n hx hb dX4_tellAhead_71 rfl (lv_at hl 1 rfl) ?_
    refine q_callVW (As := []) (w1 := yrW cA ad (gs (gs (gs (gs (gs (gs (gs g 14 nF9_14) 15 nF21_15) 16 nF33_16) 17 nF47_19) 18 nF47_20) 19 nF47_19) 20 nF47_20) (zs z 1 (z 1 + 1))) hx hb hml hown hT hK hP hD hS hA (c_X4_keepTried l D cA ad (gs (gs (gs (gs (gs g 14 nF9_14) 15 nF21_15) 16 nF33_16) 19 nF47_19) 20 nF47_20) (zs z 1 (z 1 + 1))) k_X4_keepTried kl_X4_66 (q0 := 0) rfl rfl rfl ((yrW_adr _ _ _ _).trans (yrW_adr _ _ _ _).symm) hl rfl rfl (Nat.le_of_ble_eq_true rfl) ⟨⟨rfl, rfl⟩, Nat.le_of_ble_eq_true rfl, Nat.le_of_ble_eq_true rfl⟩ ⟨Nat.zero_le _, Nat.zero_le _⟩ dX4_tellAhead_72 (fun H locs hP hD hS => ?_)
    refine lv_iload hx hb dX4_tellAhead_75 (lv_at hl 0 rfl) ?_
    rw [enF47_20] at hP hD
    rw [enF47_19] at hP hD
    rw [enF33_16] at hP hD
    rw [enF33_16] at hl
    rw [enF33_16]
    rw [enF21_15] at hP hD
    rw [enF21_15] at hl
    rw [enF21_15]
    rw [enF9_14] at hP hD
    rw [enF9_14] at hl
    rw [enF9_14]
    exact q_iret hx hb hr hlk (by rfl) (va_cast' hP (by rw [enF9_14, enF21_15, enF33_16] at d_55; rw [d_55]; rfl)) hS dX4_tellAhead_77
  · have d_55 := vd_m1 dMV_le c_55
    refine lv_aload_n hx hb dX4_tellAhead_58 rfl (lv_at hl 1 rfl) ?_
    refine lv_dup hx hb dX4_tellAhead_59 rfl ?_
    refine q_get hx hb hT hown hK hP kw_X4 0 rfl rfl 10 (by decide) kf_X4_50 rfl (v := .int (nI (z 1 + 1))) rfl dX4_tellAhead_60 ?_
    refine lv_iconst (v := nI 1) hx hb dX4_tellAhead_63 (by decide +kernel) ?_
    refine lv_isub hx hb dX4_tellAhead_64 ?_
    refine q_top (y := nI (z 1)) (q_sub1 _) ?_
    refine q_put (ty := .int) (ws1 := yrW cA ad (gs (gs (gs (gs (gs g 14 nF9_14) 15 nF21_15) 16 nF33_16) 19 nF47_19) 20 nF47_20) (zs z 1 (z 1))) hx hb hT hown hK hP hD hS kw_X4 tyX4_ok nmX4 0 rfl rfl 10 (by decide) kf_X4_50 rfl rfl (by decide +kernel) rfl rfl (Nat.le_of_ble_eq_true rfl) rfl dX4_tellAhead_65 (fun H locs hP hD hS => ?_)
    refine lv_goto (tgt := 75) hx hb dX4_tellAhead_68 (by decide) ?_
    refine lv_iload hx hb dX4_tellAhead_75 (lv_at hl 0 rfl) ?_
    rw [enF47_20] at hP hD
    rw [enF47_19] at hP hD
    rw [enF33_16] at hP hD
    rw [enF33_16] at hl
    rw [enF33_16]
    rw [enF21_15] at hP hD
    rw [enF21_15] at hl
    rw [enF21_15]
    rw [enF9_14] at hP hD
    rw [enF9_14] at hl
    rw [enF9_14]
    exact q_iret hx hb hr hlk (by rfl) (va_cast' hP (by rw [enF9_14, enF21_15, enF33_16] at d_55; rw [d_55]; rfl)) hS dX4_tellAhead_77
abbrev rm_X4_tryNarrow : Room := { frames := 4, cells := 0, slots := 0, locals := 89 }
set_option maxRecDepth 100000 in
set_option maxHeartbeats 4000000 in
theorem c_X4_tryNarrow (l : Launch) (D : va_G) (cA : ClassId) (ad : Nat → Nat) (g : Nat → Nat → Int32) (z : Nat → Nat) (k : Nat) (lo : Int32) (hi : Int32) (hk : k < 16) (hE : ∀ k, k < (z 1) → q_r ((g 14) k) 16 ∧ q_r ((g 15) k) 16) (ht : (z 1) ≤ 40) : q_CI l yX4_tryNarrow [Cond.code yX4_tryNarrow cX4_tryNarrow 7 (some .int)] rm_X4_tryNarrow D cA [.ref (ad 71), .int (nI k), .int lo, .int hi] (yrW cA ad g z) (vd (dOK (g 14) (g 15) (g 16) (upd (g 12) k (mx ((g 12) k) lo)) (upd (g 13) k (mn ((g 13) k) hi)) (z 1)) (dMV (g 14) (g 15) (g 16) (upd (g 12) k (mx ((g 12) k) lo)) (upd (g 13) k (mn ((g 13) k) hi)) (g 17) (g 18) (z 1))) (yrW cA ad (gs (gs g 19 (itF (g 14) (g 15) (g 16) (upd (g 12) k (mx ((g 12) k) lo)) (z 1) 16)) 20 (itL (g 14) (g 15) (g 16) (upd (g 13) k (mn ((g 13) k) hi)) (z 1) 16)) z) := by
  refine q_startI RX4 (by decide +kernel) rfl (Nat.le_of_ble_eq_true rfl) ?_
  intro p e s m below meth c A args H locs ls hx hb hr hml hown hT hlk hP hK hD hA hS hl
  have hl : lv_has ls 7 [(0, .ref (ad 71)), (1, .int (nI k)), (2, .int lo), (3, .int hi)] := hl
  refine lv_aload_n hx hb dX4_tryNarrow_0 rfl (lv_at hl 0 rfl) ?_
  refine q_get hx hb hT hown hK hP kw_X4 0 rfl rfl 0 (by decide) kf_X4_14 rfl (v := .ref (ad 12)) rfl dX4_tryNarrow_1 ?_
  refine lv_iload_n hx hb dX4_tryNarrow_4 rfl (lv_at hl 1 rfl) ?_
  refine q_callI (As := [.int (nI k)]) (r := g 12 k) (wc := rowW cA (ad 12) (ad 42) 16 (g 12)) (w1 := rowW cA (ad 12) (ad 42) 16 (g 12)) (ws1 := yrW cA ad g z) hx hb hml hown hT hK hP hD hS hA (c_X3_atN l D cA (ad 12) (ad 42) 16 (g 12) k (by omega) (by omega)) k_X3_at kl_X4_54 (q0 := 0) rfl rfl rfl [1, 2] rfl rfl rfl rfl hl rfl rfl (Nat.le_of_ble_eq_true rfl) ⟨⟨rfl, rfl⟩, Nat.le_of_ble_eq_true rfl, Nat.le_of_ble_eq_true rfl⟩ ⟨Nat.zero_le _, Nat.zero_le _⟩ dX4_tryNarrow_5 (fun H locs hP hD hS => ?_)
  refine lv_istore (lv' := [(4, .int (g 12 k)), (0, .ref (ad 71)), (1, .int (nI k)), (2, .int lo), (3, .int hi)]) hx hb dX4_tryNarrow_8 hl (by decide) rfl (fun ls hl => ?_)
  refine lv_aload_n hx hb dX4_tryNarrow_10 rfl (lv_at hl 1 rfl) ?_
  refine q_get hx hb hT hown hK hP kw_X4 0 rfl rfl 1 (by decide) kf_X4_20 rfl (v := .ref (ad 13)) rfl dX4_tryNarrow_11 ?_
  refine lv_iload_n hx hb dX4_tryNarrow_14 rfl (lv_at hl 2 rfl) ?_
  refine q_callI (As := [.int (nI k)]) (r := g 13 k) (wc := rowW cA (ad 13) (ad 43) 16 (g 13)) (w1 := rowW cA (ad 13) (ad 43) 16 (g 13)) (ws1 := yrW cA ad g z) hx hb hml hown hT hK hP hD hS hA (c_X3_atN l D cA (ad 13) (ad 43) 16 (g 13) k (by omega) (by omega)) k_X3_at kl_X4_54 (q0 := 0) rfl rfl rfl [3, 4] rfl rfl rfl rfl hl rfl rfl (Nat.le_of_ble_eq_true rfl) ⟨⟨rfl, rfl⟩, Nat.le_of_ble_eq_true rfl, Nat.le_of_ble_eq_true rfl⟩ ⟨Nat.zero_le _, Nat.zero_le _⟩ dX4_tryNarrow_15 (fun H locs hP hD hS => ?_)
  refine lv_istore (lv' := [(5, .int (g 13 k)), (4, .int (g 12 k)), (0, .ref (ad 71)), (1, .int (nI k)), (2, .int lo), (3, .int hi)]) hx hb dX4_tryNarrow_18 hl (by decide) rfl (fun ls hl => ?_)
  refine lv_aload_n hx hb dX4_tryNarrow_20 rfl (lv_at hl 2 rfl) ?_
  refine q_get hx hb hT hown hK hP kw_X4 0 rfl rfl 0 (by decide) kf_X4_14 rfl (v := .ref (ad 12)) rfl dX4_tryNarrow_21 ?_
  refine lv_iload_n hx hb dX4_tryNarrow_24 rfl (lv_at hl 3 rfl) ?_
  refine lv_iload hx hb dX4_tryNarrow_25 (lv_at hl 1 rfl) ?_
  refine lv_iload_n hx hb dX4_tryNarrow_27 rfl (lv_at hl 4 rfl) ?_
  refine q_max hx hb hml hown hT hl kl_X4_73 (Nat.le_of_ble_eq_true rfl) (Nat.le_of_ble_eq_true rfl) ⟨Nat.zero_le _, Nat.zero_le _⟩ dX4_tryNarrow_28 ?_
  refine q_top (y := mx ((g 12) k) lo) (rfl) ?_
  refine q_callV (As := [.int (nI k), .int (mx ((g 12) k) lo)]) (wc := rowW cA (ad 12) (ad 42) 16 (g 12)) (w1 := rowW cA (ad 12) (ad 42) 16 (upd (g 12) k (mx ((g 12) k) lo))) (ws1 := yrW cA ad (gs g 12 (upd (g 12) k (mx ((g 12) k) lo))) z) hx hb hml hown hT hK hP hD hS hA (c_X3_putN l D cA (ad 12) (ad 42) 16 (g 12) k (mx ((g 12) k) lo) (by omega) (by omega)) k_X3_put kl_X4_58 (q0 := 0) rfl rfl rfl [1, 2] rfl rfl rfl rfl hl rfl rfl (Nat.le_of_ble_eq_true rfl) ⟨⟨rfl, rfl⟩, Nat.le_of_ble_eq_true rfl, Nat.le_of_ble_eq_true rfl⟩ ⟨Nat.zero_le _, Nat.zero_le _⟩ dX4_tryNarrow_31 (fun H locs hP hD hS => ?_)
  obtain ⟨nF31_12, enF31_12⟩ : ∃ y : Nat → Int32, y = upd (g 12) k (mx ((g 12) k) lo) := ⟨_, rfl⟩
  have hP : va_P D vwCl (yrW cA ad (gs g 12 nF31_12) z) H := by rw [enF31_12]; exact hP
  have hD : va_D A (yrW cA ad (gs g 12 nF31_12) z) := by rw [enF31_12]; exact hD
  refine lv_aload_n hx hb dX4_tryNarrow_34 rfl (lv_at hl 2 rfl) ?_
  refine q_get hx hb hT hown hK hP kw_X4 0 rfl rfl 1 (by decide) kf_X4_20 rfl (v := .ref (ad 13)) rfl dX4_tryNarrow_35 ?_
  refine lv_iload_n hx hb dX4_tryNarrow_38 rfl (lv_at hl 3 rfl) ?_
  refine lv_iload hx hb dX4_tryNarrow_39 (lv_at hl 0 rfl) ?_
  refine lv_iload_n hx hb dX4_tryNarrow_41 rfl (lv_at hl 5 rfl) ?_
  refine q_min hx hb hml hown hT hl kl_X4_79 (Nat.le_of_ble_eq_true rfl) (Nat.le_of_ble_eq_true rfl) ⟨Nat.zero_le _, Nat.zero_le _⟩ dX4_tryNarrow_42 ?_
  refine q_top (y := mn ((g 13) k) hi) (rfl) ?_
  refine q_callV (As := [.int (nI k), .int (mn ((g 13) k) hi)]) (wc := rowW cA (ad 13) (ad 43) 16 (g 13)) (w1 := rowW cA (ad 13) (ad 43) 16 (upd (g 13) k (mn ((g 13) k) hi))) (ws1 := yrW cA ad (gs (gs g 12 nF31_12) 13 (upd (g 13) k (mn ((g 13) k) hi))) z) hx hb hml hown hT hK hP hD hS hA (c_X3_putN l D cA (ad 13) (ad 43) 16 (g 13) k (mn ((g 13) k) hi) (by omega) (by omega)) k_X3_put kl_X4_58 (q0 := 0) rfl rfl rfl [3, 4] rfl rfl rfl rfl hl rfl rfl (Nat.le_of_ble_eq_true rfl) ⟨⟨rfl, rfl⟩, Nat.le_of_ble_eq_true rfl, Nat.le_of_ble_eq_true rfl⟩ ⟨Nat.zero_le _, Nat.zero_le _⟩ dX4_tryNarrow_45 (fun H locs hP hD hS => ?_)
  obtain ⟨nF45_13, enF45_13⟩ : ∃ y : Nat → Int32, y = upd (g 13) k (mn ((g 13) k) hi) := ⟨_, rfl⟩
  have hP : va_P D vwCl (yrW cA ad (gs (gs g 12 nF31_12) 13 nF45_13) z) H := by rw [enF45_13]; exact hP
  have hD : va_D A (yrW cA ad (gs (gs g 12 nF31_12) 13 nF45_13) z) := by rw [enF45_13]; exact hD
  refine lv_aload_n hx hb dX4_tryNarrow_48 rfl (lv_at hl 2 rfl) ?_
  refine q_callIW (As := []) (r := vd (dOK (g 14) (g 15) (g 16) nF31_12 nF45_13 (z 1)) (dMV (g 14) (g 15) (g 16) nF31_12 nF45_13 (g 17) (g 18) (z 1))) (w1 := yrW cA ad (gs (gs (gs (gs g 12 nF31_12) 13 nF45_13) 19 (itF (g 14) (g 15) (g 16) nF31_12 (z 1) 16)) 20 (itL (g 14) (g 15) (g 16) nF45_13 (z 1) 16)) z) hx hb hml hown hT hK hP hD hS hA (c_X4_tryDating l D cA ad (gs (gs g 12 nF31_12) 13 nF45_13) z hE (show (z 1) ≤ 40 by omega)) k_X4_tryDating kl_X4_62 (q0 := 0) rfl rfl rfl ((yrW_adr _ _ _ _).trans (yrW_adr _ _ _ _).symm) hl rfl rfl (Nat.le_of_ble_eq_true rfl) ⟨⟨rfl, rfl⟩, Nat.le_of_ble_eq_true rfl, Nat.le_of_ble_eq_true rfl⟩ ⟨Nat.zero_le _, Nat.zero_le _⟩ dX4_tryNarrow_49 (fun H locs hP hD hS => ?_)
  obtain ⟨nF49_19, enF49_19⟩ : ∃ y : Nat → Int32, y = itF (g 14) (g 15) (g 16) nF31_12 (z 1) 16 := ⟨_, rfl⟩
  have hP : va_P D vwCl (yrW cA ad (gs (gs (gs (gs g 12 nF31_12) 13 nF45_13) 19 nF49_19) 20 (itL (g 14) (g 15) (g 16) nF45_13 (z 1) 16)) z) H := by rw [enF49_19]; exact hP
  have hD : va_D A (yrW cA ad (gs (gs (gs (gs g 12 nF31_12) 13 nF45_13) 19 nF49_19) 20 (itL (g 14) (g 15) (g 16) nF45_13 (z 1) 16)) z) := by rw [enF49_19]; exact hD
  obtain ⟨nF49_20, enF49_20⟩ : ∃ y : Nat → Int32, y = itL (g 14) (g 15) (g 16) nF45_13 (z 1) 16 := ⟨_, rfl⟩
  have hP : va_P D vwCl (yrW cA ad (gs (gs (gs (gs g 12 nF31_12) 13 nF45_13) 19 nF49_19) 20 nF49_20) z) H := by rw [enF49_20]; exact hP
  have hD : va_D A (yrW cA ad (gs (gs (gs (gs g 12 nF31_12) 13 nF45_13) 19 nF49_19) 20 nF49_20) z) := by rw [enF49_20]; exact hD
  refine lv_istore (lv' := [(6, .int (vd (dOK (g 14) (g 15) (g 16) nF31_12 nF45_13 (z 1)) (dMV (g 14) (g 15) (g 16) nF31_12 nF45_13 (g 17) (g 18) (z 1)))), (5, .int (g 13 k)), (4, .int (g 12 k)), (0, .ref (ad 71)), (1, .int (nI k)), (2, .int lo), (3, .int hi)]) hx hb dX4_tryNarrow_52 hl (by decide) rfl (fun ls hl => ?_)
  refine lv_aload_n hx hb dX4_tryNarrow_54 rfl (lv_at hl 3 rfl) ?_
  refine q_get hx hb hT hown hK hP kw_X4 0 rfl rfl 0 (by decide) kf_X4_14 rfl (v := .ref (ad 12)) rfl dX4_tryNarrow_55 ?_
  refine lv_iload_n hx hb dX4_tryNarrow_58 rfl (lv_at hl 4 rfl) ?_
  refine lv_iload hx hb dX4_tryNarrow_59 (lv_at hl 2 rfl) ?_
  refine q_callV (As := [.int (nI k), .int (g 12 k)]) (wc := rowW cA (ad 12) (ad 42) 16 nF31_12) (w1 := rowW cA (ad 12) (ad 42) 16 (upd nF31_12 k (g 12 k))) (ws1 := yrW cA ad (gs (gs (gs (gs g 12 (upd nF31_12 k (g 12 k))) 13 nF45_13) 19 nF49_19) 20 nF49_20) z) hx hb hml hown hT hK hP hD hS hA (c_X3_putN l D cA (ad 12) (ad 42) 16 nF31_12 k (g 12 k) (by omega) (by omega)) k_X3_put kl_X4_58 (q0 := 0) rfl rfl rfl [1, 2] rfl rfl rfl rfl hl rfl rfl (Nat.le_of_ble_eq_true rfl) ⟨⟨rfl, rfl⟩, Nat.le_of_ble_eq_true rfl, Nat.le_of_ble_eq_true rfl⟩ ⟨Nat.zero_le _, Nat.zero_le _⟩ dX4_tryNarrow_61 (fun H locs hP hD hS => ?_)
  obtain ⟨nF61_12, enF61_12⟩ : ∃ y : Nat → Int32, y = upd nF31_12 k (g 12 k) := ⟨_, rfl⟩
  have hP : va_P D vwCl (yrW cA ad (gs (gs (gs (gs g 12 nF61_12) 13 nF45_13) 19 nF49_19) 20 nF49_20) z) H := by rw [enF61_12]; exact hP
  have hD : va_D A (yrW cA ad (gs (gs (gs (gs g 12 nF61_12) 13 nF45_13) 19 nF49_19) 20 nF49_20) z) := by rw [enF61_12]; exact hD
  refine lv_aload_n hx hb dX4_tryNarrow_64 rfl (lv_at hl 3 rfl) ?_
  refine q_get hx hb hT hown hK hP kw_X4 0 rfl rfl 1 (by decide) kf_X4_20 rfl (v := .ref (ad 13)) rfl dX4_tryNarrow_65 ?_
  refine lv_iload_n hx hb dX4_tryNarrow_68 rfl (lv_at hl 4 rfl) ?_
  refine lv_iload hx hb dX4_tryNarrow_69 (lv_at hl 1 rfl) ?_
  refine q_callV (As := [.int (nI k), .int (g 13 k)]) (wc := rowW cA (ad 13) (ad 43) 16 nF45_13) (w1 := rowW cA (ad 13) (ad 43) 16 (upd nF45_13 k (g 13 k))) (ws1 := yrW cA ad (gs (gs (gs (gs g 12 nF61_12) 13 (upd nF45_13 k (g 13 k))) 19 nF49_19) 20 nF49_20) z) hx hb hml hown hT hK hP hD hS hA (c_X3_putN l D cA (ad 13) (ad 43) 16 nF45_13 k (g 13 k) (by omega) (by omega)) k_X3_put kl_X4_58 (q0 := 0) rfl rfl rfl [3, 4] rfl rfl rfl rfl hl rfl rfl (Nat.le_of_ble_eq_true rfl) ⟨⟨rfl, rfl⟩, Nat.le_of_ble_eq_true rfl, Nat.le_of_ble_eq_true rfl⟩ ⟨Nat.zero_le _, Nat.zero_le _⟩ dX4_tryNarrow_71 (fun H locs hP hD hS => ?_)
  obtain ⟨nF71_13, enF71_13⟩ : ∃ y : Nat → Int32, y = upd nF45_13 k (g 13 k) := ⟨_, rfl⟩
  have hP : va_P D vwCl (yrW cA ad (gs (gs (gs (gs g 12 nF61_12) 13 nF71_13) 19 nF49_19) 20 nF49_20) z) H := by rw [enF71_13]; exact hP
  have hD : va_D A (yrW cA ad (gs (gs (gs (gs g 12 nF61_12) 13 nF71_13) 19 nF49_19) 20 nF49_20) z) := by rw [enF71_13]; exact hD
  refine lv_iload hx hb dX4_tryNarrow_74 (lv_at hl 0 rfl) ?_
  rw [enF71_13] at hP hD
  rw [enF61_12] at hP hD
  rw [enF49_20] at hP hD
  rw [enF49_19] at hP hD
  rw [enF45_13] at hP hD
  rw [enF45_13] at hl
  rw [enF45_13]
  rw [enF31_12] at hP hD
  rw [enF31_12] at hl
  rw [enF31_12]
  exact q_iret hx hb hr hlk (by rfl) (va_cast' hP (by rw [upd_back, upd_back]; rfl)) hS dX4_tryNarrow_76
abbrev rm_X4_narrow : Room := { frames := 5, cells := 0, slots := 0, locals := 115 }
set_option maxRecDepth 100000 in
set_option maxHeartbeats 4000000 in
theorem c_X4_narrow (l : Launch) (D : va_G) (cA : ClassId) (ad : Nat → Nat) (g : Nat → Nat → Int32) (z : Nat → Nat) (k : Nat) (lo : Int32) (hi : Int32) (hk : k < 16) (hE : ∀ k, k < (z 1) → q_r ((g 14) k) 16 ∧ q_r ((g 15) k) 16) (ht : (z 1) ≤ 40) : q_CI l yX4_narrow [Cond.code yX4_narrow cX4_narrow 5 (some .int)] rm_X4_narrow D cA [.ref (ad 71), .int (nI k), .int lo, .int hi] (yrW cA ad g z) (vd (dOK (g 14) (g 15) (g 16) (upd (g 12) k (mx ((g 12) k) lo)) (upd (g 13) k (mn ((g 13) k) hi)) (z 1)) (dMV (g 14) (g 15) (g 16) (upd (g 12) k (mx ((g 12) k) lo)) (upd (g 13) k (mn ((g 13) k) hi)) (g 17) (g 18) (z 1))) (yrW cA ad (gs (gs (gs (gs (gs (gs g 12 (bif dOK (g 14) (g 15) (g 16) (upd (g 12) k (mx ((g 12) k) lo)) (upd (g 13) k (mn ((g 13) k) hi)) (z 1) then (upd (g 12) k (mx ((g 12) k) lo)) else (g 12))) 13 (bif dOK (g 14) (g 15) (g 16) (upd (g 12) k (mx ((g 12) k) lo)) (upd (g 13) k (mn ((g 13) k) hi)) (z 1) then (upd (g 13) k (mn ((g 13) k) hi)) else (g 13))) 17 (bif dOK (g 14) (g 15) (g 16) (upd (g 12) k (mx ((g 12) k) lo)) (upd (g 13) k (mn ((g 13) k) hi)) (z 1) then itF (g 14) (g 15) (g 16) (upd (g 12) k (mx ((g 12) k) lo)) (z 1) 16 else (g 17))) 18 (bif dOK (g 14) (g 15) (g 16) (upd (g 12) k (mx ((g 12) k) lo)) (upd (g 13) k (mn ((g 13) k) hi)) (z 1) then itL (g 14) (g 15) (g 16) (upd (g 13) k (mn ((g 13) k) hi)) (z 1) 16 else (g 18))) 19 (itF (g 14) (g 15) (g 16) (upd (g 12) k (mx ((g 12) k) lo)) (z 1) 16)) 20 (itL (g 14) (g 15) (g 16) (upd (g 13) k (mn ((g 13) k) hi)) (z 1) 16)) z) := by
  refine q_startI RX4 (by decide +kernel) rfl (Nat.le_of_ble_eq_true rfl) ?_
  intro p e s m below meth c A args H locs ls hx hb hr hml hown hT hlk hP hK hD hA hS hl
  have hl : lv_has ls 5 [(0, .ref (ad 71)), (1, .int (nI k)), (2, .int lo), (3, .int hi)] := hl
  refine lv_aload_n hx hb dX4_narrow_0 rfl (lv_at hl 0 rfl) ?_
  refine lv_iload_n hx hb dX4_narrow_1 rfl (lv_at hl 1 rfl) ?_
  refine lv_iload_n hx hb dX4_narrow_2 rfl (lv_at hl 2 rfl) ?_
  refine lv_iload_n hx hb dX4_narrow_3 rfl (lv_at hl 3 rfl) ?_
  refine q_callIW (As := [.int (nI k), .int lo, .int hi]) (r := vd (dOK (g 14) (g 15) (g 16) (upd (g 12) k (mx ((g 12) k) lo)) (upd (g 13) k (mn ((g 13) k) hi)) (z 1)) (dMV (g 14) (g 15) (g 16) (upd (g 12) k (mx ((g 12) k) lo)) (upd (g 13) k (mn ((g 13) k) hi)) (g 17) (g 18) (z 1))) (w1 := yrW cA ad (gs (gs g 19 (itF (g 14) (g 15) (g 16) (upd (g 12) k (mx ((g 12) k) lo)) (z 1) 16)) 20 (itL (g 14) (g 15) (g 16) (upd (g 13) k (mn ((g 13) k) hi)) (z 1) 16)) z) hx hb hml hown hT hK hP hD hS hA (c_X4_tryNarrow l D cA ad g z k lo hi (show k < 16 by omega) hE (show (z 1) ≤ 40 by omega)) k_X4_tryNarrow kl_X4_69 (q0 := 0) rfl rfl rfl ((yrW_adr _ _ _ _).trans (yrW_adr _ _ _ _).symm) hl rfl rfl (Nat.le_of_ble_eq_true rfl) ⟨⟨rfl, rfl⟩, Nat.le_of_ble_eq_true rfl, Nat.le_of_ble_eq_true rfl⟩ ⟨Nat.zero_le _, Nat.zero_le _⟩ dX4_narrow_4 (fun H locs hP hD hS => ?_)
  obtain ⟨nF4_19, enF4_19⟩ : ∃ y : Nat → Int32, y = itF (g 14) (g 15) (g 16) (upd (g 12) k (mx ((g 12) k) lo)) (z 1) 16 := ⟨_, rfl⟩
  have hP : va_P D vwCl (yrW cA ad (gs (gs g 19 nF4_19) 20 (itL (g 14) (g 15) (g 16) (upd (g 13) k (mn ((g 13) k) hi)) (z 1) 16)) z) H := by rw [enF4_19]; exact hP
  have hD : va_D A (yrW cA ad (gs (gs g 19 nF4_19) 20 (itL (g 14) (g 15) (g 16) (upd (g 13) k (mn ((g 13) k) hi)) (z 1) 16)) z) := by rw [enF4_19]; exact hD
  obtain ⟨nF4_20, enF4_20⟩ : ∃ y : Nat → Int32, y = itL (g 14) (g 15) (g 16) (upd (g 13) k (mn ((g 13) k) hi)) (z 1) 16 := ⟨_, rfl⟩
  have hP : va_P D vwCl (yrW cA ad (gs (gs g 19 nF4_19) 20 nF4_20) z) H := by rw [enF4_20]; exact hP
  have hD : va_D A (yrW cA ad (gs (gs g 19 nF4_19) 20 nF4_20) z) := by rw [enF4_20]; exact hD
  refine lv_istore (lv' := [(4, .int (vd (dOK (g 14) (g 15) (g 16) (upd (g 12) k (mx ((g 12) k) lo)) (upd (g 13) k (mn ((g 13) k) hi)) (z 1)) (dMV (g 14) (g 15) (g 16) (upd (g 12) k (mx ((g 12) k) lo)) (upd (g 13) k (mn ((g 13) k) hi)) (g 17) (g 18) (z 1)))), (0, .ref (ad 71)), (1, .int (nI k)), (2, .int lo), (3, .int hi)]) hx hb dX4_narrow_7 hl (by decide) rfl (fun ls hl => ?_)
  refine lv_iload hx hb dX4_narrow_9 (lv_at hl 0 rfl) ?_
  refine lv_iconst (v := (-1)) hx hb dX4_narrow_11 (by decide +kernel) ?_
  refine lv_icmp_eq (tgt := 59) hx hb dX4_narrow_12 (by decide) (fun c_12 => ?_) (fun c_12 => ?_)
  · have d_12 := vd_m1 dMV_le c_12
    refine lv_iload hx hb dX4_narrow_59 (lv_at hl 0 rfl) ?_
    rw [enF4_20] at hP hD
    rw [enF4_19] at hP hD
    exact q_iret hx hb hr hlk (by rfl) (va_cast' hP (by rw [d_12]; rfl)) hS dX4_narrow_61
  · have d_12 := vd_ok c_12
    refine lv_aload_n hx hb dX4_narrow_15 rfl (lv_at hl 1 rfl) ?_
    refine q_get hx hb hT hown hK hP kw_X4 0 rfl rfl 0 (by decide) kf_X4_14 rfl (v := .ref (ad 12)) rfl dX4_narrow_16 ?_
    refine lv_iload_n hx hb dX4_narrow_19 rfl (lv_at hl 2 rfl) ?_
    refine lv_aload_n hx hb dX4_narrow_20 rfl (lv_at hl 1 rfl) ?_
    refine q_get hx hb hT hown hK hP kw_X4 0 rfl rfl 0 (by decide) kf_X4_14 rfl (v := .ref (ad 12)) rfl dX4_narrow_21 ?_
    refine lv_iload_n hx hb dX4_narrow_24 rfl (lv_at hl 2 rfl) ?_
    refine q_callI (As := [.int (nI k)]) (r := g 12 k) (wc := rowW cA (ad 12) (ad 42) 16 (g 12)) (w1 := rowW cA (ad 12) (ad 42) 16 (g 12)) (ws1 := yrW cA ad (gs (gs g 19 nF4_19) 20 nF4_20) z) hx hb hml hown hT hK hP hD hS hA (c_X3_atN l D cA (ad 12) (ad 42) 16 (g 12) k (by omega) (by omega)) k_X3_at kl_X4_54 (q0 := 0) rfl rfl rfl [1, 2] rfl rfl rfl rfl hl rfl rfl (Nat.le_of_ble_eq_true rfl) ⟨⟨rfl, rfl⟩, Nat.le_of_ble_eq_true rfl, Nat.le_of_ble_eq_true rfl⟩ ⟨Nat.zero_le _, Nat.zero_le _⟩ dX4_narrow_25 (fun H locs hP hD hS => ?_)
    refine lv_iload_n hx hb dX4_narrow_28 rfl (lv_at hl 3 rfl) ?_
    refine q_max hx hb hml hown hT hl kl_X4_73 (Nat.le_of_ble_eq_true rfl) (Nat.le_of_ble_eq_true rfl) ⟨Nat.zero_le _, Nat.zero_le _⟩ dX4_narrow_29 ?_
    refine q_top (y := mx ((g 12) k) lo) (rfl) ?_
    refine q_callV (As := [.int (nI k), .int (mx ((g 12) k) lo)]) (wc := rowW cA (ad 12) (ad 42) 16 (g 12)) (w1 := rowW cA (ad 12) (ad 42) 16 (upd (g 12) k (mx ((g 12) k) lo))) (ws1 := yrW cA ad (gs (gs (gs g 12 (upd (g 12) k (mx ((g 12) k) lo))) 19 nF4_19) 20 nF4_20) z) hx hb hml hown hT hK hP hD hS hA (c_X3_putN l D cA (ad 12) (ad 42) 16 (g 12) k (mx ((g 12) k) lo) (by omega) (by omega)) k_X3_put kl_X4_58 (q0 := 0) rfl rfl rfl [1, 2] rfl rfl rfl rfl hl rfl rfl (Nat.le_of_ble_eq_true rfl) ⟨⟨rfl, rfl⟩, Nat.le_of_ble_eq_true rfl, Nat.le_of_ble_eq_true rfl⟩ ⟨Nat.zero_le _, Nat.zero_le _⟩ dX4_narrow_32 (fun H locs hP hD hS => ?_)
    obtain ⟨nF32_12, enF32_12⟩ : ∃ y : Nat → Int32, y = upd (g 12) k (mx ((g 12) k) lo) := ⟨_, rfl⟩
    have hP : va_P D vwCl (yrW cA ad (gs (gs (gs g 12 nF32_12) 19 nF4_19) 20 nF4_20) z) H := by rw [enF32_12]; exact hP
    have hD : va_D A (yrW cA ad (gs (gs (gs g 12 nF32_12) 19 nF4_19) 20 nF4_20) z) := by rw [enF32_12]; exact hD
    refine lv_aload_n hx hb dX4_narrow_35 rfl (lv_at hl 1 rfl) ?_
    refine q_get hx hb hT hown hK hP kw_X4 0 rfl rfl 1 (by decide) kf_X4_20 rfl (v := .ref (ad 13)) rfl dX4_narrow_36 ?_
    refine lv_iload_n hx hb dX4_narrow_39 rfl (lv_at hl 2 rfl) ?_
    refine lv_aload_n hx hb dX4_narrow_40 rfl (lv_at hl 1 rfl) ?_
    refine q_get hx hb hT hown hK hP kw_X4 0 rfl rfl 1 (by decide) kf_X4_20 rfl (v := .ref (ad 13)) rfl dX4_narrow_41 ?_
    refine lv_iload_n hx hb dX4_narrow_44 rfl (lv_at hl 2 rfl) ?_
    refine q_callI (As := [.int (nI k)]) (r := g 13 k) (wc := rowW cA (ad 13) (ad 43) 16 (g 13)) (w1 := rowW cA (ad 13) (ad 43) 16 (g 13)) (ws1 := yrW cA ad (gs (gs (gs g 12 nF32_12) 19 nF4_19) 20 nF4_20) z) hx hb hml hown hT hK hP hD hS hA (c_X3_atN l D cA (ad 13) (ad 43) 16 (g 13) k (by omega) (by omega)) k_X3_at kl_X4_54 (q0 := 0) rfl rfl rfl [3, 4] rfl rfl rfl rfl hl rfl rfl (Nat.le_of_ble_eq_true rfl) ⟨⟨rfl, rfl⟩, Nat.le_of_ble_eq_true rfl, Nat.le_of_ble_eq_true rfl⟩ ⟨Nat.zero_le _, Nat.zero_le _⟩ dX4_narrow_45 (fun H locs hP hD hS => ?_)
    refine lv_iload_n hx hb dX4_narrow_48 rfl (lv_at hl 4 rfl) ?_
    refine q_min hx hb hml hown hT hl kl_X4_79 (Nat.le_of_ble_eq_true rfl) (Nat.le_of_ble_eq_true rfl) ⟨Nat.zero_le _, Nat.zero_le _⟩ dX4_narrow_49 ?_
    refine q_top (y := mn ((g 13) k) hi) (rfl) ?_
    refine q_callV (As := [.int (nI k), .int (mn ((g 13) k) hi)]) (wc := rowW cA (ad 13) (ad 43) 16 (g 13)) (w1 := rowW cA (ad 13) (ad 43) 16 (upd (g 13) k (mn ((g 13) k) hi))) (ws1 := yrW cA ad (gs (gs (gs (gs g 12 nF32_12) 13 (upd (g 13) k (mn ((g 13) k) hi))) 19 nF4_19) 20 nF4_20) z) hx hb hml hown hT hK hP hD hS hA (c_X3_putN l D cA (ad 13) (ad 43) 16 (g 13) k (mn ((g 13) k) hi) (by omega) (by omega)) k_X3_put kl_X4_58 (q0 := 0) rfl rfl rfl [3, 4] rfl rfl rfl rfl hl rfl rfl (Nat.le_of_ble_eq_true rfl) ⟨⟨rfl, rfl⟩, Nat.le_of_ble_eq_true rfl, Nat.le_of_ble_eq_true rfl⟩ ⟨Nat.zero_le _, Nat.zero_le _⟩ dX4_narrow_52 (fun H locs hP hD hS => ?_)
    obtain ⟨nF52_13, enF52_13⟩ : ∃ y : Nat → Int32, y = upd (g 13) k (mn ((g 13) k) hi) := ⟨_, rfl⟩
    have hP : va_P D vwCl (yrW cA ad (gs (gs (gs (gs g 12 nF32_12) 13 nF52_13) 19 nF4_19) 20 nF4_20) z) H := by rw [enF52_13]; exact hP
    have hD : va_D A (yrW cA ad (gs (gs (gs (gs g 12 nF32_12) 13 nF52_13) 19 nF4_19) 20 nF4_20) z) := by rw [enF52_13]; exact hD
    refine lv_aload_n hx hb dX4_narrow_55 rfl (lv_at hl 1 rfl) ?_
    refine q_callVW (As := []) (w1 := yrW cA ad (gs (gs (gs (gs (gs (gs g 12 nF32_12) 13 nF52_13) 17 nF4_19) 18 nF4_20) 19 nF4_19) 20 nF4_20) z) hx hb hml hown hT hK hP hD hS hA (c_X4_keepTried l D cA ad (gs (gs (gs (gs g 12 nF32_12) 13 nF52_13) 19 nF4_19) 20 nF4_20) z) k_X4_keepTried kl_X4_66 (q0 := 0) rfl rfl rfl ((yrW_adr _ _ _ _).trans (yrW_adr _ _ _ _).symm) hl rfl rfl (Nat.le_of_ble_eq_true rfl) ⟨⟨rfl, rfl⟩, Nat.le_of_ble_eq_true rfl, Nat.le_of_ble_eq_true rfl⟩ ⟨Nat.zero_le _, Nat.zero_le _⟩ dX4_narrow_56 (fun H locs hP hD hS => ?_)
    refine lv_iload hx hb dX4_narrow_59 (lv_at hl 0 rfl) ?_
    rw [enF52_13] at hP hD
    rw [enF32_12] at hP hD
    rw [enF4_20] at hP hD
    rw [enF4_19] at hP hD
    exact q_iret hx hb hr hlk (by rfl) (va_cast' hP (by rw [d_12]; rfl)) hS dX4_narrow_61
end
section
/-- ways from one to another: row f, column t -/
def lenW (ww : Nat → Int32) (f t : Nat) (x : Int32) : Nat → Int32 := upd ww (f * 16 + t) (mx (ww (f * 16 + t)) x)
/-- over one mention on to the first n others -/
def viaW (ww : Nat → Int32) (f v : Nat) (x : Int32) : Nat → Nat → Int32
  | 0 => ww
  | k + 1 => if viaW ww f v x k (v * 16 + k) = (-1000000) then viaW ww f v x k else lenW (viaW ww f v x k) f k (x + viaW ww f v x k (v * 16 + k))
def viaA (ww : Nat → Int32) (f v : Nat) : Nat → Int32 := if ww (f * 16 + v) = (-1000000) then ww else viaW ww f v (ww (f * 16 + v)) 16
def viaF (ww : Nat → Int32) (v : Nat) : Nat → Nat → Int32
  | 0 => ww
  | k + 1 => viaA (viaF ww v k) k v
def viaV (ww : Nat → Int32) : Nat → Nat → Int32
  | 0 => ww
  | k + 1 => viaF (viaV ww k) k 16
def dirW (a b w : Nat → Int32) : Nat → Nat → Int32
  | 0 => fun _ => (-1000000)
  | k + 1 => lenW (dirW a b w k) (q_n (a k)) (q_n (b k)) (w k)
def allW (a b w : Nat → Int32) (t : Nat) : Nat → Int32 := viaV (dirW a b w t) 16
def fstW (lo ww : Nat → Int32) (m : Nat) : Nat → Int32
  | 0 => lo m
  | k + 1 => if ww (k * 16 + m) = (-1000000) then fstW lo ww m k else mx (fstW lo ww m k) (lo k + ww (k * 16 + m))
def lstW (hi ww : Nat → Int32) (m : Nat) : Nat → Int32
  | 0 => hi m
  | k + 1 => if ww (m * 16 + k) = (-1000000) then lstW hi ww m k else mn (lstW hi ww m k) (hi k - ww (m * 16 + k))
theorem viaF_0 {ww : Nat → Int32} {v : Nat} : viaF ww v 0 = ww := rfl
theorem viaF_s {ww : Nat → Int32} {v k : Nat} : viaA (viaF ww v k) k v = viaF ww v (k + 1) := rfl
theorem viaV_0 {ww : Nat → Int32} : viaV ww 0 = ww := rfl
theorem viaV_s {ww : Nat → Int32} {k : Nat} : viaF (viaV ww k) k 16 = viaV ww (k + 1) := rfl
theorem viaW_0 {ww : Nat → Int32} {f v : Nat} {x : Int32} : viaW ww f v x 0 = ww := rfl
theorem dirW_0 {a b w : Nat → Int32} : dirW a b w 0 = fun _ => (-1000000) := rfl
theorem dirW_s {a b w : Nat → Int32} {k : Nat} : lenW (dirW a b w k) (q_n (a k)) (q_n (b k)) (w k) = dirW a b w (k + 1) := rfl
theorem viaW_t {ww : Nat → Int32} {f v k : Nat} {x : Int32} (h : viaW ww f v x k (v * 16 + k) = (-1000000)) : viaW ww f v x k = viaW ww f v x (k + 1) := by rw [viaW, if_pos h]
theorem viaW_f {ww : Nat → Int32} {f v k : Nat} {x : Int32} (h : ¬ viaW ww f v x k (v * 16 + k) = (-1000000)) : lenW (viaW ww f v x k) f k (x + viaW ww f v x k (v * 16 + k)) = viaW ww f v x (k + 1) := by rw [viaW, if_neg h]
theorem viaA_t {ww : Nat → Int32} {f v : Nat} (h : ww (f * 16 + v) = (-1000000)) : ww = viaA ww f v := by rw [viaA, if_pos h]
theorem viaA_f {ww : Nat → Int32} {f v : Nat} (h : ¬ ww (f * 16 + v) = (-1000000)) : viaW ww f v (ww (f * 16 + v)) 16 = viaA ww f v := by rw [viaA, if_neg h]
theorem fstW_0 {lo ww : Nat → Int32} {m : Nat} : fstW lo ww m 0 = lo m := rfl
theorem lstW_0 {lo ww : Nat → Int32} {m : Nat} : lstW lo ww m 0 = lo m := rfl
theorem fstW_t {lo ww : Nat → Int32} {m k : Nat} (h : ww (k * 16 + m) = (-1000000)) : fstW lo ww m k = fstW lo ww m (k + 1) := by rw [fstW, if_pos h]
theorem fstW_f {lo ww : Nat → Int32} {m k : Nat} (h : ¬ ww (k * 16 + m) = (-1000000)) : mx (fstW lo ww m k) (lo k + ww (k * 16 + m)) = fstW lo ww m (k + 1) := by rw [fstW, if_neg h]
theorem lstW_t {lo ww : Nat → Int32} {m k : Nat} (h : ww (m * 16 + k) = (-1000000)) : lstW lo ww m k = lstW lo ww m (k + 1) := by rw [lstW, if_pos h]
theorem lstW_f {lo ww : Nat → Int32} {m k : Nat} (h : ¬ ww (m * 16 + k) = (-1000000)) : mn (lstW lo ww m k) (lo k - ww (m * 16 + k)) = lstW lo ww m (k + 1) := by rw [lstW, if_neg h]
abbrev rm_X4_wayBetween : Room := { frames := 1, cells := 0, slots := 0, locals := 21 }
set_option maxRecDepth 100000 in
set_option maxHeartbeats 4000000 in
theorem c_X4_wayBetween (l : Launch) (D : va_G) (cA : ClassId) (ad : Nat → Nat) (g : Nat → Nat → Int32) (z : Nat → Nat) (f : Nat) (t : Nat) (hf : f < 16) (ht : t < 16) : q_CI l yX4_wayBetween [Cond.code yX4_wayBetween cX4_wayBetween 3 (some .int)] rm_X4_wayBetween D cA [.ref (ad 71), .int (nI f), .int (nI t)] (yrW cA ad g z) ((g 21) (f * 16 + t)) (yrW cA ad g z) := by
  refine q_startI RX4 (by decide +kernel) rfl (Nat.le_of_ble_eq_true rfl) ?_
  intro p e s m below meth c A args H locs ls hx hb hr hml hown hT hlk hP hK hD hA hS hl
  have hl : lv_has ls 3 [(0, .ref (ad 71)), (1, .int (nI f)), (2, .int (nI t))] := hl
  refine lv_aload_n hx hb dX4_wayBetween_0 rfl (lv_at hl 0 rfl) ?_
  refine q_get hx hb hT hown hK hP kw_X4 0 rfl rfl 9 (by decide) kf_X4_44 rfl (v := .ref (ad 21)) rfl dX4_wayBetween_1 ?_
  refine lv_iload_n hx hb dX4_wayBetween_4 rfl (lv_at hl 1 rfl) ?_
  refine lv_bipush (v := nI 16) hx hb dX4_wayBetween_5 (by decide +kernel) ?_
  refine lv_imul hx hb dX4_wayBetween_7 ?_
  refine q_top (y := nI (f * 16)) (pk_mul _ _) ?_
  refine lv_iload_n hx hb dX4_wayBetween_8 rfl (lv_at hl 2 rfl) ?_
  refine lv_iadd hx hb dX4_wayBetween_9 ?_
  refine q_top (y := nI ((f * 16) + t)) (nI_add _ _) ?_
  refine q_callI (As := [.int (nI ((f * 16) + t))]) (r := g 21 ((f * 16) + t)) (wc := rowW cA (ad 21) (ad 51) 256 (g 21)) (w1 := rowW cA (ad 21) (ad 51) 256 (g 21)) (ws1 := yrW cA ad g z) hx hb hml hown hT hK hP hD hS hA (c_X3_atN l D cA (ad 21) (ad 51) 256 (g 21) ((f * 16) + t) (by omega) (by omega)) k_X3_at kl_X4_54 (q0 := 0) rfl rfl rfl [19, 20] rfl rfl rfl rfl hl rfl rfl (Nat.le_of_ble_eq_true rfl) ⟨⟨rfl, rfl⟩, Nat.le_of_ble_eq_true rfl, Nat.le_of_ble_eq_true rfl⟩ ⟨Nat.zero_le _, Nat.zero_le _⟩ dX4_wayBetween_10 (fun H locs hP hD hS => ?_)
  exact q_iret hx hb hr hlk (by rfl) hP hS dX4_wayBetween_13
abbrev rm_X4_lengthen : Room := { frames := 2, cells := 0, slots := 0, locals := 43 }
set_option maxRecDepth 100000 in
set_option maxHeartbeats 4000000 in
theorem c_X4_lengthen (l : Launch) (D : va_G) (cA : ClassId) (ad : Nat → Nat) (g : Nat → Nat → Int32) (z : Nat → Nat) (f : Nat) (t : Nat) (x : Int32) (hf : f < 16) (ht : t < 16) : q_CV l yX4_lengthen [Cond.code yX4_lengthen cX4_lengthen 4 none] rm_X4_lengthen D cA [.ref (ad 71), .int (nI f), .int (nI t), .int x] (yrW cA ad g z) (yrW cA ad (gs g 21 (lenW (g 21) f t x)) z) := by
  refine q_startV RX4 (by decide +kernel) rfl (Nat.le_of_ble_eq_true rfl) ?_
  intro p e s m below meth c A args H locs ls hx hb hr hml hown hT hlk hP hK hD hA hS hl
  have hl : lv_has ls 4 [(0, .ref (ad 71)), (1, .int (nI f)), (2, .int (nI t)), (3, .int x)] := hl
  refine lv_aload_n hx hb dX4_lengthen_0 rfl (lv_at hl 0 rfl) ?_
  refine q_get hx hb hT hown hK hP kw_X4 0 rfl rfl 9 (by decide) kf_X4_44 rfl (v := .ref (ad 21)) rfl dX4_lengthen_1 ?_
  refine lv_iload_n hx hb dX4_lengthen_4 rfl (lv_at hl 1 rfl) ?_
  refine lv_bipush (v := nI 16) hx hb dX4_lengthen_5 (by decide +kernel) ?_
  refine lv_imul hx hb dX4_lengthen_7 ?_
  refine q_top (y := nI (f * 16)) (pk_mul _ _) ?_
  refine lv_iload_n hx hb dX4_lengthen_8 rfl (lv_at hl 2 rfl) ?_
  refine lv_iadd hx hb dX4_lengthen_9 ?_
  refine q_top (y := nI ((f * 16) + t)) (nI_add _ _) ?_
  refine lv_aload_n hx hb dX4_lengthen_10 rfl (lv_at hl 0 rfl) ?_
  refine lv_iload_n hx hb dX4_lengthen_11 rfl (lv_at hl 1 rfl) ?_
  refine lv_iload_n hx hb dX4_lengthen_12 rfl (lv_at hl 2 rfl) ?_
  refine q_callIW (As := [.int (nI f), .int (nI t)]) (r := (g 21) (f * 16 + t)) (w1 := yrW cA ad g z) hx hb hml hown hT hK hP hD hS hA (c_X4_wayBetween l D cA ad g z f t (show f < 16 by omega) (show t < 16 by omega)) k_X4_wayBetween kl_X4_102 (q0 := 0) rfl rfl rfl ((yrW_adr _ _ _ _).trans (yrW_adr _ _ _ _).symm) hl rfl rfl (Nat.le_of_ble_eq_true rfl) ⟨⟨rfl, rfl⟩, Nat.le_of_ble_eq_true rfl, Nat.le_of_ble_eq_true rfl⟩ ⟨Nat.zero_le _, Nat.zero_le _⟩ dX4_lengthen_13 (fun H locs hP hD hS => ?_)
  refine lv_iload_n hx hb dX4_lengthen_16 rfl (lv_at hl 3 rfl) ?_
  refine q_max hx hb hml hown hT hl kl_X4_73 (Nat.le_of_ble_eq_true rfl) (Nat.le_of_ble_eq_true rfl) ⟨Nat.zero_le _, Nat.zero_le _⟩ dX4_lengthen_17 ?_
  refine q_top (y := mx ((g 21) (f * 16 + t)) x) (rfl) ?_
  refine q_callV (As := [.int (nI ((f * 16) + t)), .int (mx ((g 21) (f * 16 + t)) x)]) (wc := rowW cA (ad 21) (ad 51) 256 (g 21)) (w1 := rowW cA (ad 21) (ad 51) 256 (upd (g 21) ((f * 16) + t) (mx ((g 21) (f * 16 + t)) x))) (ws1 := yrW cA ad (gs g 21 (upd (g 21) ((f * 16) + t) (mx ((g 21) (f * 16 + t)) x))) z) hx hb hml hown hT hK hP hD hS hA (c_X3_putN l D cA (ad 21) (ad 51) 256 (g 21) ((f * 16) + t) (mx ((g 21) (f * 16 + t)) x) (by omega) (by omega)) k_X3_put kl_X4_58 (q0 := 0) rfl rfl rfl [19, 20] rfl rfl rfl rfl hl rfl rfl (Nat.le_of_ble_eq_true rfl) ⟨⟨rfl, rfl⟩, Nat.le_of_ble_eq_true rfl, Nat.le_of_ble_eq_true rfl⟩ ⟨Nat.zero_le _, Nat.zero_le _⟩ dX4_lengthen_20 (fun H locs hP hD hS => ?_)
  obtain ⟨nF20_21, enF20_21⟩ : ∃ y : Nat → Int32, y = upd (g 21) ((f * 16) + t) (mx ((g 21) (f * 16 + t)) x) := ⟨_, rfl⟩
  have hP : va_P D vwCl (yrW cA ad (gs g 21 nF20_21) z) H := by rw [enF20_21]; exact hP
  have hD : va_D A (yrW cA ad (gs g 21 nF20_21) z) := by rw [enF20_21]; exact hD
  rw [enF20_21] at hP hD
  exact q_vret hx hb hr hlk (va_cast' hP (by rfl)) hS dX4_lengthen_23
abbrev rm_X4_lengthenAllVia : Room := { frames := 3, cells := 0, slots := 0, locals := 66 }
set_option maxRecDepth 100000 in
set_option maxHeartbeats 4000000 in
theorem c_X4_lengthenAllVia (l : Launch) (D : va_G) (cA : ClassId) (ad : Nat → Nat) (g : Nat → Nat → Int32) (z : Nat → Nat) (f : Nat) (v : Nat) (hf : f < 16) (hv : v < 16) : q_CV l yX4_lengthenAllVia [Cond.code yX4_lengthenAllVia cX4_lengthenAllVia 6 none] rm_X4_lengthenAllVia D cA [.ref (ad 71), .int (nI f), .int (nI v)] (yrW cA ad g z) (yrW cA ad (gs g 21 (viaA (g 21) f v)) z) := by
  refine q_startV RX4 (by decide +kernel) rfl (Nat.le_of_ble_eq_true rfl) ?_
  intro p e s m below meth c A args H locs ls hx hb hr hml hown hT hlk hP hK hD hA hS hl
  have hl : lv_has ls 6 [(0, .ref (ad 71)), (1, .int (nI f)), (2, .int (nI v))] := hl
  have zqL17 : ∀ (fu : Nat), ∀ (k : Nat), (16 + 1 ≤ k + fu) → (k ≤ 16) → (¬ (g 21) (f * 16 + v) = (-1000000)) → ∀ (H : Heap) (locs : List Loc) (ls : Array Slot), va_P D vwCl (yrW cA ad (gs g 21 (viaW (g 21) f v ((g 21) (f * 16 + v)) k)) z) H → va_D A (yrW cA ad (gs g 21 (viaW (g 21) f v ((g 21) (f * 16 + v)) k)) z) → va_S A s.heap H locs → lv_has ls 6 [(0, .ref (ad 71)), (1, .int (nI f)), (2, .int (nI v)), (3, .int ((g 21) (f * 16 + v))), (4, .int (nI k))] → W p l e rm_X4_lengthenAllVia s m args below meth c H locs 0 0 (q_GV D (yrW cA ad (gs g 21 (viaA (g 21) f v)) z) A below args s) (F0 m 17 ls []) := by
    intro fu
    induction fu with
    | zero =>
      intro k hfu hk hw H locs ls hP hD hS hl
      exfalso; omega
    | succ fu ih17 =>
      intro k hfu hk hw H locs ls hP hD hS hl
      refine lv_iload hx hb dX4_lengthenAllVia_17 (lv_at hl 4 rfl) ?_
      refine lv_bipush (v := nI 16) hx hb dX4_lengthenAllVia_19 (by decide +kernel) ?_
      refine lv_icmp_ge (tgt := 57) hx hb dX4_lengthenAllVia_21 (by decide) (fun c_21 => ?_) (fun c_21 => ?_)
      · have c_21 := nI_le1 (a := 16) (b := k) (by omega) (by omega) c_21
        exact q_vret hx hb hr hlk (va_cast' hP (by rw [show k = 16 by omega, viaA_f hw])) hS dX4_lengthenAllVia_57
      · have c_21 := nI_le0 (a := 16) (b := k) (by omega) (by omega) c_21
        refine lv_aload_n hx hb dX4_lengthenAllVia_24 rfl (lv_at hl 0 rfl) ?_
        refine lv_iload_n hx hb dX4_lengthenAllVia_25 rfl (lv_at hl 2 rfl) ?_
        refine lv_iload hx hb dX4_lengthenAllVia_26 (lv_at hl 4 rfl) ?_
        refine q_callIW (As := [.int (nI v), .int (nI k)]) (r := (viaW (g 21) f v ((g 21) (f * 16 + v)) k) (v * 16 + k)) (w1 := yrW cA ad (gs g 21 (viaW (g 21) f v ((g 21) (f * 16 + v)) k)) z) hx hb hml hown hT hK hP hD hS hA (c_X4_wayBetween l D cA ad (gs g 21 (viaW (g 21) f v ((g 21) (f * 16 + v)) k)) z v k (show v < 16 by omega) (show k < 16 by omega)) k_X4_wayBetween kl_X4_102 (q0 := 0) rfl rfl rfl ((yrW_adr _ _ _ _).trans (yrW_adr _ _ _ _).symm) hl rfl rfl (Nat.le_of_ble_eq_true rfl) ⟨⟨rfl, rfl⟩, Nat.le_of_ble_eq_true rfl, Nat.le_of_ble_eq_true rfl⟩ ⟨Nat.zero_le _, Nat.zero_le _⟩ dX4_lengthenAllVia_28 (fun H locs hP hD hS => ?_)
        refine lv_istore (lv' := [(5, .int ((viaW (g 21) f v ((g 21) (f * 16 + v)) k) (v * 16 + k))), (0, .ref (ad 71)), (1, .int (nI f)), (2, .int (nI v)), (3, .int ((g 21) (f * 16 + v))), (4, .int (nI k))]) hx hb dX4_lengthenAllVia_31 hl (by decide) rfl (fun ls hl => ?_)
        refine lv_iload hx hb dX4_lengthenAllVia_33 (lv_at hl 0 rfl) ?_
        refine lv_ldc (v := (-1000000)) hx hb hown (hT.use kk_X4_105 args) dX4_lengthenAllVia_35 ?_
        refine lv_icmp_eq (tgt := 51) hx hb dX4_lengthenAllVia_37 (by decide) (fun c_37 => ?_) (fun c_37 => ?_)
        · refine lv_iinc (v := nI (k + 1)) (lv' := [(4, .int (nI (k + 1))), (5, .int ((viaW (g 21) f v ((g 21) (f * 16 + v)) k) (v * 16 + k))), (0, .ref (ad 71)), (1, .int (nI f)), (2, .int (nI v)), (3, .int ((g 21) (f * 16 + v)))]) hx hb dX4_lengthenAllVia_51 hl (k := 5) rfl (q_inc1 _) (by decide) rfl (fun ls hl => ?_)
          refine lv_goto (tgt := 17) hx hb dX4_lengthenAllVia_54 (by decide) ?_
          have ew9 : (yrW cA ad (gs g 21 (viaW (g 21) f v ((g 21) (f * 16 + v)) k)) z) = (yrW cA ad (gs g 21 (viaW (g 21) f v ((g 21) (f * 16 + v)) (k + 1))) z) := by first | with_reducible rfl | (first | rw [viaW_t c_37] | rw [viaW_f c_37])
          have hP : va_P D vwCl (yrW cA ad (gs g 21 (viaW (g 21) f v ((g 21) (f * 16 + v)) (k + 1))) z) H := va_cast' hP ew9
          have hD : va_D A (yrW cA ad (gs g 21 (viaW (g 21) f v ((g 21) (f * 16 + v)) (k + 1))) z) := va_castD hD ew9
          exact ih17 (k + 1) (by omega) (by omega) hw _ _ _ hP hD hS (lv_sub hl [2, 3, 4, 5, 0] rfl)
        · refine lv_aload_n hx hb dX4_lengthenAllVia_40 rfl (lv_at hl 1 rfl) ?_
          refine lv_iload_n hx hb dX4_lengthenAllVia_41 rfl (lv_at hl 2 rfl) ?_
          refine lv_iload hx hb dX4_lengthenAllVia_42 (lv_at hl 5 rfl) ?_
          refine lv_iload_n hx hb dX4_lengthenAllVia_44 rfl (lv_at hl 4 rfl) ?_
          refine lv_iload hx hb dX4_lengthenAllVia_45 (lv_at hl 0 rfl) ?_
          refine lv_iadd hx hb dX4_lengthenAllVia_47 ?_
          refine q_callVW (As := [.int (nI f), .int (nI k), .int (((g 21) (f * 16 + v)) + ((viaW (g 21) f v ((g 21) (f * 16 + v)) k) (v * 16 + k)))]) (w1 := yrW cA ad (gs g 21 (lenW (viaW (g 21) f v ((g 21) (f * 16 + v)) k) f k (((g 21) (f * 16 + v)) + ((viaW (g 21) f v ((g 21) (f * 16 + v)) k) (v * 16 + k))))) z) hx hb hml hown hT hK hP hD hS hA (c_X4_lengthen l D cA ad (gs g 21 (viaW (g 21) f v ((g 21) (f * 16 + v)) k)) z f k (((g 21) (f * 16 + v)) + ((viaW (g 21) f v ((g 21) (f * 16 + v)) k) (v * 16 + k))) (show f < 16 by omega) (show k < 16 by omega)) k_X4_lengthen kl_X4_106 (q0 := 0) rfl rfl rfl ((yrW_adr _ _ _ _).trans (yrW_adr _ _ _ _).symm) hl rfl rfl (Nat.le_of_ble_eq_true rfl) ⟨⟨rfl, rfl⟩, Nat.le_of_ble_eq_true rfl, Nat.le_of_ble_eq_true rfl⟩ ⟨Nat.zero_le _, Nat.zero_le _⟩ dX4_lengthenAllVia_48 (fun H locs hP hD hS => ?_)
          obtain ⟨nF48_21, enF48_21⟩ : ∃ y : Nat → Int32, y = lenW (viaW (g 21) f v ((g 21) (f * 16 + v)) k) f k (((g 21) (f * 16 + v)) + ((viaW (g 21) f v ((g 21) (f * 16 + v)) k) (v * 16 + k))) := ⟨_, rfl⟩
          have hP : va_P D vwCl (yrW cA ad (gs g 21 nF48_21) z) H := by rw [enF48_21]; exact hP
          have hD : va_D A (yrW cA ad (gs g 21 nF48_21) z) := by rw [enF48_21]; exact hD
          refine lv_iinc (v := nI (k + 1)) (lv' := [(4, .int (nI (k + 1))), (5, .int ((viaW (g 21) f v ((g 21) (f * 16 + v)) k) (v * 16 + k))), (0, .ref (ad 71)), (1, .int (nI f)), (2, .int (nI v)), (3, .int ((g 21) (f * 16 + v)))]) hx hb dX4_lengthenAllVia_51 hl (k := 5) rfl (q_inc1 _) (by decide) rfl (fun ls hl => ?_)
          refine lv_goto (tgt := 17) hx hb dX4_lengthenAllVia_54 (by decide) ?_
          rw [enF48_21] at hP hD
          have ew9 : (yrW cA ad (gs g 21 (lenW (viaW (g 21) f v ((g 21) (f * 16 + v)) k) f k (((g 21) (f * 16 + v)) + ((viaW (g 21) f v ((g 21) (f * 16 + v)) k) (v * 16 + k))))) z) = (yrW cA ad (gs g 21 (viaW (g 21) f v ((g 21) (f * 16 + v)) (k + 1))) z) := by first | with_reducible rfl | (first | rw [viaW_t c_37] | rw [viaW_f c_37])
          have hP : va_P D vwCl (yrW cA ad (gs g 21 (viaW (g 21) f v ((g 21) (f * 16 + v)) (k + 1))) z) H := va_cast' hP ew9
          have hD : va_D A (yrW cA ad (gs g 21 (viaW (g 21) f v ((g 21) (f * 16 + v)) (k + 1))) z) := va_castD hD ew9
          exact ih17 (k + 1) (by omega) (by omega) hw _ _ _ hP hD hS (lv_sub hl [2, 3, 4, 5, 0] rfl)
  refine lv_aload_n hx hb dX4_lengthenAllVia_0 rfl (lv_at hl 0 rfl) ?_
  refine lv_iload_n hx hb dX4_lengthenAllVia_1 rfl (lv_at hl 1 rfl) ?_
  refine lv_iload_n hx hb dX4_lengthenAllVia_2 rfl (lv_at hl 2 rfl) ?_
  refine q_callIW (As := [.int (nI f), .int (nI v)]) (r := (g 21) (f * 16 + v)) (w1 := yrW cA ad g z) hx hb hml hown hT hK hP hD hS hA (c_X4_wayBetween l D cA ad g z f v (show f < 16 by omega) (show v < 16 by omega)) k_X4_wayBetween kl_X4_102 (q0 := 0) rfl rfl rfl ((yrW_adr _ _ _ _).trans (yrW_adr _ _ _ _).symm) hl rfl rfl (Nat.le_of_ble_eq_true rfl) ⟨⟨rfl, rfl⟩, Nat.le_of_ble_eq_true rfl, Nat.le_of_ble_eq_true rfl⟩ ⟨Nat.zero_le _, Nat.zero_le _⟩ dX4_lengthenAllVia_3 (fun H locs hP hD hS => ?_)
  refine lv_istore_n (lv' := [(3, .int ((g 21) (f * 16 + v))), (0, .ref (ad 71)), (1, .int (nI f)), (2, .int (nI v))]) hx hb dX4_lengthenAllVia_6 rfl hl (by decide) rfl (fun ls hl => ?_)
  refine lv_iload_n hx hb dX4_lengthenAllVia_7 rfl (lv_at hl 0 rfl) ?_
  refine lv_ldc (v := (-1000000)) hx hb hown (hT.use kk_X4_105 args) dX4_lengthenAllVia_8 ?_
  refine lv_icmp_ne (tgt := 14) hx hb dX4_lengthenAllVia_10 (by decide) (fun c_10 => ?_) (fun c_10 => ?_)
  · refine lv_iconst (v := nI 0) hx hb dX4_lengthenAllVia_14 (by decide +kernel) ?_
    refine lv_istore (lv' := [(4, .int (nI 0)), (3, .int ((g 21) (f * 16 + v))), (0, .ref (ad 71)), (1, .int (nI f)), (2, .int (nI v))]) hx hb dX4_lengthenAllVia_15 hl (by decide) rfl (fun ls hl => ?_)
    have ew9 : (yrW cA ad g z) = (yrW cA ad (gs g 21 (viaW (g 21) f v ((g 21) (f * 16 + v)) 0)) z) := by first | with_reducible rfl | (rw [viaW_0]; rfl)
    have hP : va_P D vwCl (yrW cA ad (gs g 21 (viaW (g 21) f v ((g 21) (f * 16 + v)) 0)) z) H := va_cast' hP ew9
    have hD : va_D A (yrW cA ad (gs g 21 (viaW (g 21) f v ((g 21) (f * 16 + v)) 0)) z) := va_castD hD ew9
    exact zqL17 (16 + 1) 0 (by omega) (by omega) c_10 _ _ _ hP hD hS (lv_sub hl [2, 3, 4, 1, 0] rfl)
  · exact q_vret hx hb hr hlk (va_cast' hP (by rw [← viaA_t c_10]; rfl)) hS dX4_lengthenAllVia_13
abbrev rm_X4_measureWays : Room := { frames := 4, cells := 0, slots := 0, locals := 91 }
set_option maxRecDepth 100000 in
set_option maxHeartbeats 4000000 in
theorem c_X4_measureWays (l : Launch) (D : va_G) (cA : ClassId) (ad : Nat → Nat) (g : Nat → Nat → Int32) (z : Nat → Nat)  (hE : ∀ k, k < (z 1) → q_r ((g 14) k) 16 ∧ q_r ((g 15) k) 16) (ht : (z 1) ≤ 40) : q_CV l yX4_measureWays [Cond.code yX4_measureWays cX4_measureWays 3 none] rm_X4_measureWays D cA [.ref (ad 71)] (yrW cA ad g z) (yrW cA ad (gs g 21 (allW (g 14) (g 15) (g 16) (z 1))) z) := by
  refine q_startV RX4 (by decide +kernel) rfl (Nat.le_of_ble_eq_true rfl) ?_
  intro p e s m below meth c A args H locs ls hx hb hr hml hown hT hlk hP hK hD hA hS hl
  have hl : lv_has ls 3 [(0, .ref (ad 71))] := hl
  have zqL11 : ∀ (fu : Nat), ∀ (k : Nat), (z 1 + 1 ≤ k + fu) → (k ≤ (z 1)) → ∀ (H : Heap) (locs : List Loc) (ls : Array Slot), va_P D vwCl (yrW cA ad (gs g 21 (dirW (g 14) (g 15) (g 16) k)) z) H → va_D A (yrW cA ad (gs g 21 (dirW (g 14) (g 15) (g 16) k)) z) → va_S A s.heap H locs → lv_has ls 3 [(0, .ref (ad 71)), (1, .int (nI k))] → W p l e rm_X4_measureWays s m args below meth c H locs 0 0 (q_GV D (yrW cA ad (gs g 21 (allW (g 14) (g 15) (g 16) (z 1))) z) A below args s) (F0 m 11 ls []) := by
    intro fu
    induction fu with
    | zero =>
      intro k hfu hk H locs ls hP hD hS hl
      exfalso; omega
    | succ fu ih11 =>
      intro k hfu hk H locs ls hP hD hS hl
      have zqL55 : ∀ (fu : Nat), ∀ (v : Nat), (16 + 1 ≤ v + fu) → (v ≤ 16) → (k = (z 1)) → ∀ (H : Heap) (locs : List Loc) (ls : Array Slot), va_P D vwCl (yrW cA ad (gs g 21 (viaV (dirW (g 14) (g 15) (g 16) (z 1)) v)) z) H → va_D A (yrW cA ad (gs g 21 (viaV (dirW (g 14) (g 15) (g 16) (z 1)) v)) z) → va_S A s.heap H locs → lv_has ls 3 [(0, .ref (ad 71)), (1, .int (nI v))] → W p l e rm_X4_measureWays s m args below meth c H locs 0 0 (q_GV D (yrW cA ad (gs g 21 (allW (g 14) (g 15) (g 16) (z 1))) z) A below args s) (F0 m 55 ls []) := by
        intro fu
        induction fu with
        | zero =>
          intro v hfu hv hkk H locs ls hP hD hS hl
          exfalso; omega
        | succ fu ih55 =>
          intro v hfu hv hkk H locs ls hP hD hS hl
          have zqL63 : ∀ (fu : Nat), ∀ (f : Nat), (16 + 1 ≤ f + fu) → (f ≤ 16) → (v < 16) → ∀ (H : Heap) (locs : List Loc) (ls : Array Slot), va_P D vwCl (yrW cA ad (gs g 21 (viaF (viaV (dirW (g 14) (g 15) (g 16) (z 1)) v) v f)) z) H → va_D A (yrW cA ad (gs g 21 (viaF (viaV (dirW (g 14) (g 15) (g 16) (z 1)) v) v f)) z) → va_S A s.heap H locs → lv_has ls 3 [(0, .ref (ad 71)), (1, .int (nI v)), (2, .int (nI f))] → W p l e rm_X4_measureWays s m args below meth c H locs 0 0 (q_GV D (yrW cA ad (gs g 21 (allW (g 14) (g 15) (g 16) (z 1))) z) A below args s) (F0 m 63 ls []) := by
            intro fu
            induction fu with
            | zero =>
              intro f hfu hf hv2 H locs ls hP hD hS hl
              exfalso; omega
            | succ fu ih63 =>
              intro f hfu hf hv2 H locs ls hP hD hS hl
              refine lv_iload_n hx hb dX4_measureWays_63 rfl (lv_at hl 2 rfl) ?_
              refine lv_bipush (v := nI 16) hx hb dX4_measureWays_64 (by decide +kernel) ?_
              refine lv_icmp_ge (tgt := 81) hx hb dX4_measureWays_66 (by decide) (fun c_66 => ?_) (fun c_66 => ?_)
              · have c_66 := nI_le1 (a := 16) (b := f) (by omega) (by omega) c_66
                refine lv_iinc (v := nI (v + 1)) (lv' := [(1, .int (nI (v + 1))), (0, .ref (ad 71)), (2, .int (nI f))]) hx hb dX4_measureWays_81 hl (k := 1) rfl (q_inc1 _) (by decide) rfl (fun ls hl => ?_)
                refine lv_goto (tgt := 55) hx hb dX4_measureWays_84 (by decide) ?_
                have ew9 : (yrW cA ad (gs g 21 (viaF (viaV (dirW (g 14) (g 15) (g 16) (z 1)) v) v f)) z) = (yrW cA ad (gs g 21 (viaV (dirW (g 14) (g 15) (g 16) (z 1)) (v + 1))) z) := by first | with_reducible rfl | (rw [show f = 16 by omega, viaV_s])
                have hP : va_P D vwCl (yrW cA ad (gs g 21 (viaV (dirW (g 14) (g 15) (g 16) (z 1)) (v + 1))) z) H := va_cast' hP ew9
                have hD : va_D A (yrW cA ad (gs g 21 (viaV (dirW (g 14) (g 15) (g 16) (z 1)) (v + 1))) z) := va_castD hD ew9
                exact ih55 (v + 1) (by omega) (by omega) (by omega) _ _ _ hP hD hS (lv_sub hl [1, 0] rfl)
              · have c_66 := nI_le0 (a := 16) (b := f) (by omega) (by omega) c_66
                refine lv_aload_n hx hb dX4_measureWays_69 rfl (lv_at hl 0 rfl) ?_
                refine lv_iload_n hx hb dX4_measureWays_70 rfl (lv_at hl 2 rfl) ?_
                refine lv_iload_n hx hb dX4_measureWays_71 rfl (lv_at hl 1 rfl) ?_
                refine q_callVW (As := [.int (nI f), .int (nI v)]) (w1 := yrW cA ad (gs g 21 (viaA (viaF (viaV (dirW (g 14) (g 15) (g 16) (z 1)) v) v f) f v)) z) hx hb hml hown hT hK hP hD hS hA (c_X4_lengthenAllVia l D cA ad (gs g 21 (viaF (viaV (dirW (g 14) (g 15) (g 16) (z 1)) v) v f)) z f v (show f < 16 by omega) (show v < 16 by omega)) k_X4_lengthenAllVia kl_X4_110 (q0 := 0) rfl rfl rfl ((yrW_adr _ _ _ _).trans (yrW_adr _ _ _ _).symm) hl rfl rfl (Nat.le_of_ble_eq_true rfl) ⟨⟨rfl, rfl⟩, Nat.le_of_ble_eq_true rfl, Nat.le_of_ble_eq_true rfl⟩ ⟨Nat.zero_le _, Nat.zero_le _⟩ dX4_measureWays_72 (fun H locs hP hD hS => ?_)
                obtain ⟨nF72_21, enF72_21⟩ : ∃ y : Nat → Int32, y = viaA (viaF (viaV (dirW (g 14) (g 15) (g 16) (z 1)) v) v f) f v := ⟨_, rfl⟩
                have hP : va_P D vwCl (yrW cA ad (gs g 21 nF72_21) z) H := by rw [enF72_21]; exact hP
                have hD : va_D A (yrW cA ad (gs g 21 nF72_21) z) := by rw [enF72_21]; exact hD
                refine lv_iinc (v := nI (f + 1)) (lv' := [(2, .int (nI (f + 1))), (0, .ref (ad 71)), (1, .int (nI v))]) hx hb dX4_measureWays_75 hl (k := 2) rfl (q_inc1 _) (by decide) rfl (fun ls hl => ?_)
                refine lv_goto (tgt := 63) hx hb dX4_measureWays_78 (by decide) ?_
                rw [enF72_21] at hP hD
                have ew9 : (yrW cA ad (gs g 21 (viaA (viaF (viaV (dirW (g 14) (g 15) (g 16) (z 1)) v) v f) f v)) z) = (yrW cA ad (gs g 21 (viaF (viaV (dirW (g 14) (g 15) (g 16) (z 1)) v) v (f + 1))) z) := by first | with_reducible rfl | (rw [viaF_s])
                have hP : va_P D vwCl (yrW cA ad (gs g 21 (viaF (viaV (dirW (g 14) (g 15) (g 16) (z 1)) v) v (f + 1))) z) H := va_cast' hP ew9
                have hD : va_D A (yrW cA ad (gs g 21 (viaF (viaV (dirW (g 14) (g 15) (g 16) (z 1)) v) v (f + 1))) z) := va_castD hD ew9
                exact ih63 (f + 1) (by omega) (by omega) (by omega) _ _ _ hP hD hS (lv_sub hl [1, 2, 0] rfl)
          refine lv_iload_n hx hb dX4_measureWays_55 rfl (lv_at hl 1 rfl) ?_
          refine lv_bipush (v := nI 16) hx hb dX4_measureWays_56 (by decide +kernel) ?_
          refine lv_icmp_ge (tgt := 87) hx hb dX4_measureWays_58 (by decide) (fun c_58 => ?_) (fun c_58 => ?_)
          · have c_58 := nI_le1 (a := 16) (b := v) (by omega) (by omega) c_58
            exact q_vret hx hb hr hlk (va_cast' hP (by rw [show v = 16 by omega, allW])) hS dX4_measureWays_87
          · have c_58 := nI_le0 (a := 16) (b := v) (by omega) (by omega) c_58
            refine lv_iconst (v := nI 0) hx hb dX4_measureWays_61 (by decide +kernel) ?_
            refine lv_istore_n (lv' := [(2, .int (nI 0)), (0, .ref (ad 71)), (1, .int (nI v))]) hx hb dX4_measureWays_62 rfl hl (by decide) rfl (fun ls hl => ?_)
            have ew9 : (yrW cA ad (gs g 21 (viaV (dirW (g 14) (g 15) (g 16) (z 1)) v)) z) = (yrW cA ad (gs g 21 (viaF (viaV (dirW (g 14) (g 15) (g 16) (z 1)) v) v 0)) z) := by first | with_reducible rfl | (rw [viaF_0])
            have hP : va_P D vwCl (yrW cA ad (gs g 21 (viaF (viaV (dirW (g 14) (g 15) (g 16) (z 1)) v) v 0)) z) H := va_cast' hP ew9
            have hD : va_D A (yrW cA ad (gs g 21 (viaF (viaV (dirW (g 14) (g 15) (g 16) (z 1)) v) v 0)) z) := va_castD hD ew9
            exact zqL63 (16 + 1) 0 (by omega) (by omega) (by omega) _ _ _ hP hD hS (lv_sub hl [1, 2, 0] rfl)
      refine lv_iload_n hx hb dX4_measureWays_11 rfl (lv_at hl 1 rfl) ?_
      refine lv_aload_n hx hb dX4_measureWays_12 rfl (lv_at hl 0 rfl) ?_
      refine q_get hx hb hT hown hK hP kw_X4 0 rfl rfl 10 (by decide) kf_X4_50 rfl (v := .int (nI (z 1))) rfl dX4_measureWays_13 ?_
      refine lv_icmp_ge (tgt := 53) hx hb dX4_measureWays_16 (by decide) (fun c_16 => ?_) (fun c_16 => ?_)
      · have c_16 := nI_le1 (a := z 1) (b := k) (by omega) (by omega) c_16
        refine lv_iconst (v := nI 0) hx hb dX4_measureWays_53 (by decide +kernel) ?_
        refine lv_istore_n (lv' := [(1, .int (nI 0)), (0, .ref (ad 71))]) hx hb dX4_measureWays_54 rfl hl (by decide) rfl (fun ls hl => ?_)
        have ew9 : (yrW cA ad (gs g 21 (dirW (g 14) (g 15) (g 16) k)) z) = (yrW cA ad (gs g 21 (viaV (dirW (g 14) (g 15) (g 16) (z 1)) 0)) z) := by first | with_reducible rfl | (rw [show k = z 1 by omega, viaV_0])
        have hP : va_P D vwCl (yrW cA ad (gs g 21 (viaV (dirW (g 14) (g 15) (g 16) (z 1)) 0)) z) H := va_cast' hP ew9
        have hD : va_D A (yrW cA ad (gs g 21 (viaV (dirW (g 14) (g 15) (g 16) (z 1)) 0)) z) := va_castD hD ew9
        exact zqL55 (16 + 1) 0 (by omega) (by omega) (by omega) _ _ _ hP hD hS (lv_sub hl [1, 0] rfl)
      · have c_16 := nI_le0 (a := z 1) (b := k) (by omega) (by omega) c_16
        refine lv_aload_n hx hb dX4_measureWays_19 rfl (lv_at hl 0 rfl) ?_
        refine lv_aload_n hx hb dX4_measureWays_20 rfl (lv_at hl 0 rfl) ?_
        refine q_get hx hb hT hown hK hP kw_X4 0 rfl rfl 2 (by decide) kf_X4_23 rfl (v := .ref (ad 14)) rfl dX4_measureWays_21 ?_
        refine lv_iload_n hx hb dX4_measureWays_24 rfl (lv_at hl 1 rfl) ?_
        refine q_callI (As := [.int (nI k)]) (r := g 14 k) (wc := rowW cA (ad 14) (ad 44) 40 (g 14)) (w1 := rowW cA (ad 14) (ad 44) 40 (g 14)) (ws1 := yrW cA ad (gs g 21 (dirW (g 14) (g 15) (g 16) k)) z) hx hb hml hown hT hK hP hD hS hA (c_X3_atN l D cA (ad 14) (ad 44) 40 (g 14) k (by omega) (by omega)) k_X3_at kl_X4_54 (q0 := 0) rfl rfl rfl [5, 6] rfl rfl rfl rfl hl rfl rfl (Nat.le_of_ble_eq_true rfl) ⟨⟨rfl, rfl⟩, Nat.le_of_ble_eq_true rfl, Nat.le_of_ble_eq_true rfl⟩ ⟨Nat.zero_le _, Nat.zero_le _⟩ dX4_measureWays_25 (fun H locs hP hD hS => ?_)
        refine q_top (y := nI (q_n ((g 14) k))) ((hE k (by omega)).1.eq (by omega)) ?_
        refine lv_aload_n hx hb dX4_measureWays_28 rfl (lv_at hl 0 rfl) ?_
        refine q_get hx hb hT hown hK hP kw_X4 0 rfl rfl 3 (by decide) kf_X4_26 rfl (v := .ref (ad 15)) rfl dX4_measureWays_29 ?_
        refine lv_iload_n hx hb dX4_measureWays_32 rfl (lv_at hl 1 rfl) ?_
        refine q_callI (As := [.int (nI k)]) (r := g 15 k) (wc := rowW cA (ad 15) (ad 45) 40 (g 15)) (w1 := rowW cA (ad 15) (ad 45) 40 (g 15)) (ws1 := yrW cA ad (gs g 21 (dirW (g 14) (g 15) (g 16) k)) z) hx hb hml hown hT hK hP hD hS hA (c_X3_atN l D cA (ad 15) (ad 45) 40 (g 15) k (by omega) (by omega)) k_X3_at kl_X4_54 (q0 := 0) rfl rfl rfl [7, 8] rfl rfl rfl rfl hl rfl rfl (Nat.le_of_ble_eq_true rfl) ⟨⟨rfl, rfl⟩, Nat.le_of_ble_eq_true rfl, Nat.le_of_ble_eq_true rfl⟩ ⟨Nat.zero_le _, Nat.zero_le _⟩ dX4_measureWays_33 (fun H locs hP hD hS => ?_)
        refine q_top (y := nI (q_n ((g 15) k))) ((hE k (by omega)).2.eq (by omega)) ?_
        refine lv_aload_n hx hb dX4_measureWays_36 rfl (lv_at hl 0 rfl) ?_
        refine q_get hx hb hT hown hK hP kw_X4 0 rfl rfl 4 (by decide) kf_X4_29 rfl (v := .ref (ad 16)) rfl dX4_measureWays_37 ?_
        refine lv_iload_n hx hb dX4_measureWays_40 rfl (lv_at hl 1 rfl) ?_
        refine q_callI (As := [.int (nI k)]) (r := g 16 k) (wc := rowW cA (ad 16) (ad 46) 40 (g 16)) (w1 := rowW cA (ad 16) (ad 46) 40 (g 16)) (ws1 := yrW cA ad (gs g 21 (dirW (g 14) (g 15) (g 16) k)) z) hx hb hml hown hT hK hP hD hS hA (c_X3_atN l D cA (ad 16) (ad 46) 40 (g 16) k (by omega) (by omega)) k_X3_at kl_X4_54 (q0 := 0) rfl rfl rfl [9, 10] rfl rfl rfl rfl hl rfl rfl (Nat.le_of_ble_eq_true rfl) ⟨⟨rfl, rfl⟩, Nat.le_of_ble_eq_true rfl, Nat.le_of_ble_eq_true rfl⟩ ⟨Nat.zero_le _, Nat.zero_le _⟩ dX4_measureWays_41 (fun H locs hP hD hS => ?_)
        refine q_callVW (As := [.int (nI (q_n ((g 14) k))), .int (nI (q_n ((g 15) k))), .int (g 16 k)]) (w1 := yrW cA ad (gs g 21 (lenW (dirW (g 14) (g 15) (g 16) k) (q_n ((g 14) k)) (q_n ((g 15) k)) (g 16 k))) z) hx hb hml hown hT hK hP hD hS hA (c_X4_lengthen l D cA ad (gs g 21 (dirW (g 14) (g 15) (g 16) k)) z (q_n ((g 14) k)) (q_n ((g 15) k)) (g 16 k) ((hE k (by omega)).1.lt (by omega)) ((hE k (by omega)).2.lt (by omega))) k_X4_lengthen kl_X4_106 (q0 := 0) rfl rfl rfl ((yrW_adr _ _ _ _).trans (yrW_adr _ _ _ _).symm) hl rfl rfl (Nat.le_of_ble_eq_true rfl) ⟨⟨rfl, rfl⟩, Nat.le_of_ble_eq_true rfl, Nat.le_of_ble_eq_true rfl⟩ ⟨Nat.zero_le _, Nat.zero_le _⟩ dX4_measureWays_44 (fun H locs hP hD hS => ?_)
        obtain ⟨nF44_21, enF44_21⟩ : ∃ y : Nat → Int32, y = lenW (dirW (g 14) (g 15) (g 16) k) (q_n ((g 14) k)) (q_n ((g 15) k)) (g 16 k) := ⟨_, rfl⟩
        have hP : va_P D vwCl (yrW cA ad (gs g 21 nF44_21) z) H := by rw [enF44_21]; exact hP
        have hD : va_D A (yrW cA ad (gs g 21 nF44_21) z) := by rw [enF44_21]; exact hD
        refine lv_iinc (v := nI (k + 1)) (lv' := [(1, .int (nI (k + 1))), (0, .ref (ad 71))]) hx hb dX4_measureWays_47 hl (k := 1) rfl (q_inc1 _) (by decide) rfl (fun ls hl => ?_)
        refine lv_goto (tgt := 11) hx hb dX4_measureWays_50 (by decide) ?_
        rw [enF44_21] at hP hD
        have ew9 : (yrW cA ad (gs g 21 (lenW (dirW (g 14) (g 15) (g 16) k) (q_n ((g 14) k)) (q_n ((g 15) k)) (g 16 k))) z) = (yrW cA ad (gs g 21 (dirW (g 14) (g 15) (g 16) (k + 1))) z) := by first | with_reducible rfl | (rw [dirW_s])
        have hP : va_P D vwCl (yrW cA ad (gs g 21 (dirW (g 14) (g 15) (g 16) (k + 1))) z) H := va_cast' hP ew9
        have hD : va_D A (yrW cA ad (gs g 21 (dirW (g 14) (g 15) (g 16) (k + 1))) z) := va_castD hD ew9
        exact ih11 (k + 1) (by omega) (by omega) _ _ _ hP hD hS (lv_sub hl [1, 0] rfl)
  refine lv_aload_n hx hb dX4_measureWays_0 rfl (lv_at hl 0 rfl) ?_
  refine q_get hx hb hT hown hK hP kw_X4 0 rfl rfl 9 (by decide) kf_X4_44 rfl (v := .ref (ad 21)) rfl dX4_measureWays_1 ?_
  refine lv_ldc (v := (-1000000)) hx hb hown (hT.use kk_X4_105 args) dX4_measureWays_4 ?_
  refine q_callV (As := [.int (-1000000)]) (wc := rowW cA (ad 21) (ad 51) 256 (g 21)) (w1 := rowW cA (ad 21) (ad 51) 256 (fun _ => (-1000000))) (ws1 := yrW cA ad (gs g 21 (fun _ => (-1000000))) z) hx hb hml hown hT hK hP hD hS hA (c_X3_fill l D cA (ad 21) (ad 51) 256 (g 21) (-1000000) (by omega)) k_X3_fill kl_X4_47 (q0 := 0) rfl rfl rfl [19, 20] rfl rfl rfl rfl hl rfl rfl (Nat.le_of_ble_eq_true rfl) ⟨⟨rfl, rfl⟩, Nat.le_of_ble_eq_true rfl, Nat.le_of_ble_eq_true rfl⟩ ⟨Nat.zero_le _, Nat.zero_le _⟩ dX4_measureWays_6 (fun H locs hP hD hS => ?_)
  obtain ⟨nF6_21, enF6_21⟩ : ∃ y : Nat → Int32, y = (fun _ => (-1000000)) := ⟨_, rfl⟩
  have hP : va_P D vwCl (yrW cA ad (gs g 21 nF6_21) z) H := by rw [enF6_21]; exact hP
  have hD : va_D A (yrW cA ad (gs g 21 nF6_21) z) := by rw [enF6_21]; exact hD
  refine lv_iconst (v := nI 0) hx hb dX4_measureWays_9 (by decide +kernel) ?_
  refine lv_istore_n (lv' := [(1, .int (nI 0)), (0, .ref (ad 71))]) hx hb dX4_measureWays_10 rfl hl (by decide) rfl (fun ls hl => ?_)
  rw [enF6_21] at hP hD
  have ew9 : (yrW cA ad (gs g 21 (fun _ => (-1000000))) z) = (yrW cA ad (gs g 21 (dirW (g 14) (g 15) (g 16) 0)) z) := by first | with_reducible rfl | (rw [dirW_0])
  have hP : va_P D vwCl (yrW cA ad (gs g 21 (dirW (g 14) (g 15) (g 16) 0)) z) H := va_cast' hP ew9
  have hD : va_D A (yrW cA ad (gs g 21 (dirW (g 14) (g 15) (g 16) 0)) z) := va_castD hD ew9
  exact zqL11 (z 1 + 1) 0 (by omega) (by omega) _ _ _ hP hD hS (lv_sub hl [1, 0] rfl)
abbrev rm_X4_firstByWays : Room := { frames := 5, cells := 0, slots := 0, locals := 113 }
set_option maxRecDepth 100000 in
set_option maxHeartbeats 4000000 in
theorem c_X4_firstByWays (l : Launch) (D : va_G) (cA : ClassId) (ad : Nat → Nat) (g : Nat → Nat → Int32) (z : Nat → Nat) (mi : Nat) (hm : mi < 16) (hE : ∀ k, k < (z 1) → q_r ((g 14) k) 16 ∧ q_r ((g 15) k) 16) (ht : (z 1) ≤ 40) : q_CI l yX4_firstByWays [Cond.code yX4_firstByWays cX4_firstByWays 5 (some .int)] rm_X4_firstByWays D cA [.ref (ad 71), .int (nI mi)] (yrW cA ad g z) (fstW (g 12) (allW (g 14) (g 15) (g 16) (z 1)) mi 16) (yrW cA ad (gs g 21 (allW (g 14) (g 15) (g 16) (z 1))) z) := by
  refine q_startI RX4 (by decide +kernel) rfl (Nat.le_of_ble_eq_true rfl) ?_
  intro p e s m below meth c A args H locs ls hx hb hr hml hown hT hlk hP hK hD hA hS hl
  have hl : lv_has ls 5 [(0, .ref (ad 71)), (1, .int (nI mi))] := hl
  obtain ⟨AW, hAW⟩ : ∃ y : Nat → Int32, y = allW (g 14) (g 15) (g 16) (z 1) := ⟨_, rfl⟩
  have zqL15 : ∀ (fu : Nat), ∀ (k : Nat), (16 + 1 ≤ k + fu) → (k ≤ 16) → ∀ (H : Heap) (locs : List Loc) (ls : Array Slot), va_P D vwCl (yrW cA ad (gs g 21 AW) z) H → va_D A (yrW cA ad (gs g 21 AW) z) → va_S A s.heap H locs → lv_has ls 5 [(0, .ref (ad 71)), (1, .int (nI mi)), (2, .int (fstW (g 12) AW mi k)), (3, .int (nI k))] → W p l e rm_X4_firstByWays s m args below meth c H locs 0 0 (q_GI D (fstW (g 12) (allW (g 14) (g 15) (g 16) (z 1)) mi 16) (yrW cA ad (gs g 21 (allW (g 14) (g 15) (g 16) (z 1))) z) A below args s) (F0 m 15 ls []) := by
    intro fu
    induction fu with
    | zero =>
      intro k hfu hk H locs ls hP hD hS hl
      exfalso; omega
    | succ fu ih15 =>
      intro k hfu hk H locs ls hP hD hS hl
      have zqJ52 : (k < 16) → ∀ (H : Heap) (locs : List Loc) (ls : Array Slot), va_P D vwCl (yrW cA ad (gs g 21 AW) z) H → va_D A (yrW cA ad (gs g 21 AW) z) → va_S A s.heap H locs → lv_has ls 5 [(0, .ref (ad 71)), (1, .int (nI mi)), (2, .int (fstW (g 12) AW mi (k + 1))), (3, .int (nI k))] → W p l e rm_X4_firstByWays s m args below meth c H locs 0 0 (q_GI D (fstW (g 12) (allW (g 14) (g 15) (g 16) (z 1)) mi 16) (yrW cA ad (gs g 21 (allW (g 14) (g 15) (g 16) (z 1))) z) A below args s) (F0 m 52 ls []) := by
        intro  hk9 H locs ls hP hD hS hl
        refine lv_iinc (v := nI (k + 1)) (lv' := [(3, .int (nI (k + 1))), (0, .ref (ad 71)), (1, .int (nI mi)), (2, .int (fstW (g 12) AW mi (k + 1)))]) hx hb dX4_firstByWays_52 hl (k := 3) rfl (q_inc1 _) (by decide) rfl (fun ls hl => ?_)
        refine lv_goto (tgt := 15) hx hb dX4_firstByWays_55 (by decide) ?_
        exact ih15 (k + 1) (by omega) (by omega) _ _ _ hP hD hS (lv_sub hl [1, 2, 3, 0] rfl)
      refine lv_iload_n hx hb dX4_firstByWays_15 rfl (lv_at hl 3 rfl) ?_
      refine lv_bipush (v := nI 16) hx hb dX4_firstByWays_16 (by decide +kernel) ?_
      refine lv_icmp_ge (tgt := 58) hx hb dX4_firstByWays_18 (by decide) (fun c_18 => ?_) (fun c_18 => ?_)
      · have c_18 := nI_le1 (a := 16) (b := k) (by omega) (by omega) c_18
        refine lv_iload_n hx hb dX4_firstByWays_58 rfl (lv_at hl 2 rfl) ?_
        exact q_iret hx hb hr hlk (by rw [show k = 16 by omega, hAW]) (va_cast' hP (by rw [hAW])) hS dX4_firstByWays_59
      · have c_18 := nI_le0 (a := 16) (b := k) (by omega) (by omega) c_18
        refine lv_aload_n hx hb dX4_firstByWays_21 rfl (lv_at hl 0 rfl) ?_
        refine lv_iload_n hx hb dX4_firstByWays_22 rfl (lv_at hl 3 rfl) ?_
        refine lv_iload_n hx hb dX4_firstByWays_23 rfl (lv_at hl 1 rfl) ?_
        refine q_callIW (As := [.int (nI k), .int (nI mi)]) (r := AW (k * 16 + mi)) (w1 := yrW cA ad (gs g 21 AW) z) hx hb hml hown hT hK hP hD hS hA (c_X4_wayBetween l D cA ad (gs g 21 AW) z k mi (show k < 16 by omega) (show mi < 16 by omega)) k_X4_wayBetween kl_X4_102 (q0 := 0) rfl rfl rfl ((yrW_adr _ _ _ _).trans (yrW_adr _ _ _ _).symm) hl rfl rfl (Nat.le_of_ble_eq_true rfl) ⟨⟨rfl, rfl⟩, Nat.le_of_ble_eq_true rfl, Nat.le_of_ble_eq_true rfl⟩ ⟨Nat.zero_le _, Nat.zero_le _⟩ dX4_firstByWays_24 (fun H locs hP hD hS => ?_)
        refine lv_istore (lv' := [(4, .int (AW (k * 16 + mi))), (0, .ref (ad 71)), (1, .int (nI mi)), (2, .int (fstW (g 12) AW mi k)), (3, .int (nI k))]) hx hb dX4_firstByWays_27 hl (by decide) rfl (fun ls hl => ?_)
        refine lv_iload hx hb dX4_firstByWays_29 (lv_at hl 0 rfl) ?_
        refine lv_ldc (v := (-1000000)) hx hb hown (hT.use kk_X4_105 args) dX4_firstByWays_31 ?_
        refine lv_icmp_eq (tgt := 52) hx hb dX4_firstByWays_33 (by decide) (fun c_33 => ?_) (fun c_33 => ?_)
        · have e9_0 : (fstW (g 12) AW mi k) = (fstW (g 12) AW mi (k + 1)) := by first | with_reducible rfl | (first | rw [fstW_t c_33] | rw [fstW_f c_33])
          have hl9 : lv_has ls 5 [(0, .ref (ad 71)), (1, .int (nI mi)), (2, .int (fstW (g 12) AW mi (k + 1))), (3, .int (nI k))] := lv_cast (l := [(0, .ref (ad 71)), (1, .int (nI mi)), (2, .int (fstW (g 12) AW mi k)), (3, .int (nI k))]) (lv_sub hl [1, 2, 3, 4] rfl) (congrArg (fun v9 : Int32 => ([(0, .ref (ad 71)), (1, .int (nI mi)), (2, .int v9), (3, .int (nI k))] : List (Nat × Value))) e9_0)
          exact zqJ52  (by omega) _ _ _ hP hD hS hl9
        · refine lv_iload_n hx hb dX4_firstByWays_36 rfl (lv_at hl 3 rfl) ?_
          refine lv_aload_n hx hb dX4_firstByWays_37 rfl (lv_at hl 1 rfl) ?_
          refine q_get hx hb hT hown hK hP kw_X4 0 rfl rfl 0 (by decide) kf_X4_14 rfl (v := .ref (ad 12)) rfl dX4_firstByWays_38 ?_
          refine lv_iload_n hx hb dX4_firstByWays_41 rfl (lv_at hl 4 rfl) ?_
          refine q_callI (As := [.int (nI k)]) (r := g 12 k) (wc := rowW cA (ad 12) (ad 42) 16 (g 12)) (w1 := rowW cA (ad 12) (ad 42) 16 (g 12)) (ws1 := yrW cA ad (gs g 21 AW) z) hx hb hml hown hT hK hP hD hS hA (c_X3_atN l D cA (ad 12) (ad 42) 16 (g 12) k (by omega) (by omega)) k_X3_at kl_X4_54 (q0 := 0) rfl rfl rfl [1, 2] rfl rfl rfl rfl hl rfl rfl (Nat.le_of_ble_eq_true rfl) ⟨⟨rfl, rfl⟩, Nat.le_of_ble_eq_true rfl, Nat.le_of_ble_eq_true rfl⟩ ⟨Nat.zero_le _, Nat.zero_le _⟩ dX4_firstByWays_42 (fun H locs hP hD hS => ?_)
          refine lv_iload hx hb dX4_firstByWays_45 (lv_at hl 0 rfl) ?_
          refine lv_iadd hx hb dX4_firstByWays_47 ?_
          refine q_max hx hb hml hown hT hl kl_X4_73 (Nat.le_of_ble_eq_true rfl) (Nat.le_of_ble_eq_true rfl) ⟨Nat.zero_le _, Nat.zero_le _⟩ dX4_firstByWays_48 ?_
          refine q_top (y := mx (fstW (g 12) AW mi k) ((g 12) k + AW (k * 16 + mi))) (rfl) ?_
          refine lv_istore_n (lv' := [(2, .int (mx (fstW (g 12) AW mi k) ((g 12) k + AW (k * 16 + mi)))), (4, .int (AW (k * 16 + mi))), (0, .ref (ad 71)), (1, .int (nI mi)), (3, .int (nI k))]) hx hb dX4_firstByWays_51 rfl hl (by decide) rfl (fun ls hl => ?_)
          have e9_0 : (mx (fstW (g 12) AW mi k) ((g 12) k + AW (k * 16 + mi))) = (fstW (g 12) AW mi (k + 1)) := by first | with_reducible rfl | (first | rw [fstW_t c_33] | rw [fstW_f c_33])
          have hl9 : lv_has ls 5 [(0, .ref (ad 71)), (1, .int (nI mi)), (2, .int (fstW (g 12) AW mi (k + 1))), (3, .int (nI k))] := lv_cast (l := [(0, .ref (ad 71)), (1, .int (nI mi)), (2, .int (mx (fstW (g 12) AW mi k) ((g 12) k + AW (k * 16 + mi)))), (3, .int (nI k))]) (lv_sub hl [2, 3, 0, 4] rfl) (congrArg (fun v9 : Int32 => ([(0, .ref (ad 71)), (1, .int (nI mi)), (2, .int v9), (3, .int (nI k))] : List (Nat × Value))) e9_0)
          exact zqJ52  (by omega) _ _ _ hP hD hS hl9
  refine lv_aload_n hx hb dX4_firstByWays_0 rfl (lv_at hl 0 rfl) ?_
  refine q_callVW (As := []) (w1 := yrW cA ad (gs g 21 (allW (g 14) (g 15) (g 16) (z 1))) z) hx hb hml hown hT hK hP hD hS hA (c_X4_measureWays l D cA ad g z hE (show (z 1) ≤ 40 by omega)) k_X4_measureWays kl_X4_99 (q0 := 0) rfl rfl rfl ((yrW_adr _ _ _ _).trans (yrW_adr _ _ _ _).symm) hl rfl rfl (Nat.le_of_ble_eq_true rfl) ⟨⟨rfl, rfl⟩, Nat.le_of_ble_eq_true rfl, Nat.le_of_ble_eq_true rfl⟩ ⟨Nat.zero_le _, Nat.zero_le _⟩ dX4_firstByWays_1 (fun H locs hP hD hS => ?_)
  obtain ⟨nF1_21, enF1_21⟩ : ∃ y : Nat → Int32, y = allW (g 14) (g 15) (g 16) (z 1) := ⟨_, rfl⟩
  have hP : va_P D vwCl (yrW cA ad (gs g 21 nF1_21) z) H := by rw [enF1_21]; exact hP
  have hD : va_D A (yrW cA ad (gs g 21 nF1_21) z) := by rw [enF1_21]; exact hD
  refine lv_aload_n hx hb dX4_firstByWays_4 rfl (lv_at hl 0 rfl) ?_
  refine q_get hx hb hT hown hK hP kw_X4 0 rfl rfl 0 (by decide) kf_X4_14 rfl (v := .ref (ad 12)) rfl dX4_firstByWays_5 ?_
  refine lv_iload_n hx hb dX4_firstByWays_8 rfl (lv_at hl 1 rfl) ?_
  refine q_callI (As := [.int (nI mi)]) (r := g 12 mi) (wc := rowW cA (ad 12) (ad 42) 16 (g 12)) (w1 := rowW cA (ad 12) (ad 42) 16 (g 12)) (ws1 := yrW cA ad (gs g 21 nF1_21) z) hx hb hml hown hT hK hP hD hS hA (c_X3_atN l D cA (ad 12) (ad 42) 16 (g 12) mi (by omega) (by omega)) k_X3_at kl_X4_54 (q0 := 0) rfl rfl rfl [1, 2] rfl rfl rfl rfl hl rfl rfl (Nat.le_of_ble_eq_true rfl) ⟨⟨rfl, rfl⟩, Nat.le_of_ble_eq_true rfl, Nat.le_of_ble_eq_true rfl⟩ ⟨Nat.zero_le _, Nat.zero_le _⟩ dX4_firstByWays_9 (fun H locs hP hD hS => ?_)
  refine lv_istore_n (lv' := [(2, .int (g 12 mi)), (0, .ref (ad 71)), (1, .int (nI mi))]) hx hb dX4_firstByWays_12 rfl hl (by decide) rfl (fun ls hl => ?_)
  refine lv_iconst (v := nI 0) hx hb dX4_firstByWays_13 (by decide +kernel) ?_
  refine lv_istore_n (lv' := [(3, .int (nI 0)), (2, .int (g 12 mi)), (0, .ref (ad 71)), (1, .int (nI mi))]) hx hb dX4_firstByWays_14 rfl hl (by decide) rfl (fun ls hl => ?_)
  rw [enF1_21] at hP hD
  have e9_0 : (g 12 mi) = (fstW (g 12) AW mi 0) := by first | with_reducible rfl | (rw [fstW_0])
  have hl9 : lv_has ls 5 [(0, .ref (ad 71)), (1, .int (nI mi)), (2, .int (fstW (g 12) AW mi 0)), (3, .int (nI 0))] := lv_cast (l := [(0, .ref (ad 71)), (1, .int (nI mi)), (2, .int (g 12 mi)), (3, .int (nI 0))]) (lv_sub hl [2, 3, 1, 0] rfl) (congrArg (fun v9 : Int32 => ([(0, .ref (ad 71)), (1, .int (nI mi)), (2, .int v9), (3, .int (nI 0))] : List (Nat × Value))) e9_0)
  have ew9 : (yrW cA ad (gs g 21 (allW (g 14) (g 15) (g 16) (z 1))) z) = (yrW cA ad (gs g 21 AW) z) := by first | with_reducible rfl | (rw [hAW])
  have hP : va_P D vwCl (yrW cA ad (gs g 21 AW) z) H := va_cast' hP ew9
  have hD : va_D A (yrW cA ad (gs g 21 AW) z) := va_castD hD ew9
  exact zqL15 (16 + 1) 0 (by omega) (by omega) _ _ _ hP hD hS hl9
abbrev rm_X4_lastByWays : Room := { frames := 5, cells := 0, slots := 0, locals := 113 }
set_option maxRecDepth 100000 in
set_option maxHeartbeats 4000000 in
theorem c_X4_lastByWays (l : Launch) (D : va_G) (cA : ClassId) (ad : Nat → Nat) (g : Nat → Nat → Int32) (z : Nat → Nat) (mi : Nat) (hm : mi < 16) (hE : ∀ k, k < (z 1) → q_r ((g 14) k) 16 ∧ q_r ((g 15) k) 16) (ht : (z 1) ≤ 40) : q_CI l yX4_lastByWays [Cond.code yX4_lastByWays cX4_lastByWays 5 (some .int)] rm_X4_lastByWays D cA [.ref (ad 71), .int (nI mi)] (yrW cA ad g z) (lstW (g 13) (allW (g 14) (g 15) (g 16) (z 1)) mi 16) (yrW cA ad (gs g 21 (allW (g 14) (g 15) (g 16) (z 1))) z) := by
  refine q_startI RX4 (by decide +kernel) rfl (Nat.le_of_ble_eq_true rfl) ?_
  intro p e s m below meth c A args H locs ls hx hb hr hml hown hT hlk hP hK hD hA hS hl
  have hl : lv_has ls 5 [(0, .ref (ad 71)), (1, .int (nI mi))] := hl
  obtain ⟨AW, hAW⟩ : ∃ y : Nat → Int32, y = allW (g 14) (g 15) (g 16) (z 1) := ⟨_, rfl⟩
  have zqL15 : ∀ (fu : Nat), ∀ (k : Nat), (16 + 1 ≤ k + fu) → (k ≤ 16) → ∀ (H : Heap) (locs : List Loc) (ls : Array Slot), va_P D vwCl (yrW cA ad (gs g 21 AW) z) H → va_D A (yrW cA ad (gs g 21 AW) z) → va_S A s.heap H locs → lv_has ls 5 [(0, .ref (ad 71)), (1, .int (nI mi)), (2, .int (lstW (g 13) AW mi k)), (3, .int (nI k))] → W p l e rm_X4_lastByWays s m args below meth c H locs 0 0 (q_GI D (lstW (g 13) (allW (g 14) (g 15) (g 16) (z 1)) mi 16) (yrW cA ad (gs g 21 (allW (g 14) (g 15) (g 16) (z 1))) z) A below args s) (F0 m 15 ls []) := by
    intro fu
    induction fu with
    | zero =>
      intro k hfu hk H locs ls hP hD hS hl
      exfalso; omega
    | succ fu ih15 =>
      intro k hfu hk H locs ls hP hD hS hl
      have zqJ52 : (k < 16) → ∀ (H : Heap) (locs : List Loc) (ls : Array Slot), va_P D vwCl (yrW cA ad (gs g 21 AW) z) H → va_D A (yrW cA ad (gs g 21 AW) z) → va_S A s.heap H locs → lv_has ls 5 [(0, .ref (ad 71)), (1, .int (nI mi)), (2, .int (lstW (g 13) AW mi (k + 1))), (3, .int (nI k))] → W p l e rm_X4_lastByWays s m args below meth c H locs 0 0 (q_GI D (lstW (g 13) (allW (g 14) (g 15) (g 16) (z 1)) mi 16) (yrW cA ad (gs g 21 (allW (g 14) (g 15) (g 16) (z 1))) z) A below args s) (F0 m 52 ls []) := by
        intro  hk9 H locs ls hP hD hS hl
        refine lv_iinc (v := nI (k + 1)) (lv' := [(3, .int (nI (k + 1))), (0, .ref (ad 71)), (1, .int (nI mi)), (2, .int (lstW (g 13) AW mi (k + 1)))]) hx hb dX4_lastByWays_52 hl (k := 3) rfl (q_inc1 _) (by decide) rfl (fun ls hl => ?_)
        refine lv_goto (tgt := 15) hx hb dX4_lastByWays_55 (by decide) ?_
        exact ih15 (k + 1) (by omega) (by omega) _ _ _ hP hD hS (lv_sub hl [1, 2, 3, 0] rfl)
      refine lv_iload_n hx hb dX4_lastByWays_15 rfl (lv_at hl 3 rfl) ?_
      refine lv_bipush (v := nI 16) hx hb dX4_lastByWays_16 (by decide +kernel) ?_
      refine lv_icmp_ge (tgt := 58) hx hb dX4_lastByWays_18 (by decide) (fun c_18 => ?_) (fun c_18 => ?_)
      · have c_18 := nI_le1 (a := 16) (b := k) (by omega) (by omega) c_18
        refine lv_iload_n hx hb dX4_lastByWays_58 rfl (lv_at hl 2 rfl) ?_
        exact q_iret hx hb hr hlk (by rw [show k = 16 by omega, hAW]) (va_cast' hP (by rw [hAW])) hS dX4_lastByWays_59
      · have c_18 := nI_le0 (a := 16) (b := k) (by omega) (by omega) c_18
        refine lv_aload_n hx hb dX4_lastByWays_21 rfl (lv_at hl 0 rfl) ?_
        refine lv_iload_n hx hb dX4_lastByWays_22 rfl (lv_at hl 1 rfl) ?_
        refine lv_iload_n hx hb dX4_lastByWays_23 rfl (lv_at hl 3 rfl) ?_
        refine q_callIW (As := [.int (nI mi), .int (nI k)]) (r := AW (mi * 16 + k)) (w1 := yrW cA ad (gs g 21 AW) z) hx hb hml hown hT hK hP hD hS hA (c_X4_wayBetween l D cA ad (gs g 21 AW) z mi k (show mi < 16 by omega) (show k < 16 by omega)) k_X4_wayBetween kl_X4_102 (q0 := 0) rfl rfl rfl ((yrW_adr _ _ _ _).trans (yrW_adr _ _ _ _).symm) hl rfl rfl (Nat.le_of_ble_eq_true rfl) ⟨⟨rfl, rfl⟩, Nat.le_of_ble_eq_true rfl, Nat.le_of_ble_eq_true rfl⟩ ⟨Nat.zero_le _, Nat.zero_le _⟩ dX4_lastByWays_24 (fun H locs hP hD hS => ?_)
        refine lv_istore (lv' := [(4, .int (AW (mi * 16 + k))), (0, .ref (ad 71)), (1, .int (nI mi)), (2, .int (lstW (g 13) AW mi k)), (3, .int (nI k))]) hx hb dX4_lastByWays_27 hl (by decide) rfl (fun ls hl => ?_)
        refine lv_iload hx hb dX4_lastByWays_29 (lv_at hl 0 rfl) ?_
        refine lv_ldc (v := (-1000000)) hx hb hown (hT.use kk_X4_105 args) dX4_lastByWays_31 ?_
        refine lv_icmp_eq (tgt := 52) hx hb dX4_lastByWays_33 (by decide) (fun c_33 => ?_) (fun c_33 => ?_)
        · have e9_0 : (lstW (g 13) AW mi k) = (lstW (g 13) AW mi (k + 1)) := by first | with_reducible rfl | (first | rw [lstW_t c_33] | rw [lstW_f c_33])
          have hl9 : lv_has ls 5 [(0, .ref (ad 71)), (1, .int (nI mi)), (2, .int (lstW (g 13) AW mi (k + 1))), (3, .int (nI k))] := lv_cast (l := [(0, .ref (ad 71)), (1, .int (nI mi)), (2, .int (lstW (g 13) AW mi k)), (3, .int (nI k))]) (lv_sub hl [1, 2, 3, 4] rfl) (congrArg (fun v9 : Int32 => ([(0, .ref (ad 71)), (1, .int (nI mi)), (2, .int v9), (3, .int (nI k))] : List (Nat × Value))) e9_0)
          exact zqJ52  (by omega) _ _ _ hP hD hS hl9
        · refine lv_iload_n hx hb dX4_lastByWays_36 rfl (lv_at hl 3 rfl) ?_
          refine lv_aload_n hx hb dX4_lastByWays_37 rfl (lv_at hl 1 rfl) ?_
          refine q_get hx hb hT hown hK hP kw_X4 0 rfl rfl 1 (by decide) kf_X4_20 rfl (v := .ref (ad 13)) rfl dX4_lastByWays_38 ?_
          refine lv_iload_n hx hb dX4_lastByWays_41 rfl (lv_at hl 4 rfl) ?_
          refine q_callI (As := [.int (nI k)]) (r := g 13 k) (wc := rowW cA (ad 13) (ad 43) 16 (g 13)) (w1 := rowW cA (ad 13) (ad 43) 16 (g 13)) (ws1 := yrW cA ad (gs g 21 AW) z) hx hb hml hown hT hK hP hD hS hA (c_X3_atN l D cA (ad 13) (ad 43) 16 (g 13) k (by omega) (by omega)) k_X3_at kl_X4_54 (q0 := 0) rfl rfl rfl [3, 4] rfl rfl rfl rfl hl rfl rfl (Nat.le_of_ble_eq_true rfl) ⟨⟨rfl, rfl⟩, Nat.le_of_ble_eq_true rfl, Nat.le_of_ble_eq_true rfl⟩ ⟨Nat.zero_le _, Nat.zero_le _⟩ dX4_lastByWays_42 (fun H locs hP hD hS => ?_)
          refine lv_iload hx hb dX4_lastByWays_45 (lv_at hl 0 rfl) ?_
          refine lv_isub hx hb dX4_lastByWays_47 ?_
          refine q_min hx hb hml hown hT hl kl_X4_79 (Nat.le_of_ble_eq_true rfl) (Nat.le_of_ble_eq_true rfl) ⟨Nat.zero_le _, Nat.zero_le _⟩ dX4_lastByWays_48 ?_
          refine q_top (y := mn (lstW (g 13) AW mi k) ((g 13) k - AW (mi * 16 + k))) (rfl) ?_
          refine lv_istore_n (lv' := [(2, .int (mn (lstW (g 13) AW mi k) ((g 13) k - AW (mi * 16 + k)))), (4, .int (AW (mi * 16 + k))), (0, .ref (ad 71)), (1, .int (nI mi)), (3, .int (nI k))]) hx hb dX4_lastByWays_51 rfl hl (by decide) rfl (fun ls hl => ?_)
          have e9_0 : (mn (lstW (g 13) AW mi k) ((g 13) k - AW (mi * 16 + k))) = (lstW (g 13) AW mi (k + 1)) := by first | with_reducible rfl | (first | rw [lstW_t c_33] | rw [lstW_f c_33])
          have hl9 : lv_has ls 5 [(0, .ref (ad 71)), (1, .int (nI mi)), (2, .int (lstW (g 13) AW mi (k + 1))), (3, .int (nI k))] := lv_cast (l := [(0, .ref (ad 71)), (1, .int (nI mi)), (2, .int (mn (lstW (g 13) AW mi k) ((g 13) k - AW (mi * 16 + k)))), (3, .int (nI k))]) (lv_sub hl [2, 3, 0, 4] rfl) (congrArg (fun v9 : Int32 => ([(0, .ref (ad 71)), (1, .int (nI mi)), (2, .int v9), (3, .int (nI k))] : List (Nat × Value))) e9_0)
          exact zqJ52  (by omega) _ _ _ hP hD hS hl9
  refine lv_aload_n hx hb dX4_lastByWays_0 rfl (lv_at hl 0 rfl) ?_
  refine q_callVW (As := []) (w1 := yrW cA ad (gs g 21 (allW (g 14) (g 15) (g 16) (z 1))) z) hx hb hml hown hT hK hP hD hS hA (c_X4_measureWays l D cA ad g z hE (show (z 1) ≤ 40 by omega)) k_X4_measureWays kl_X4_99 (q0 := 0) rfl rfl rfl ((yrW_adr _ _ _ _).trans (yrW_adr _ _ _ _).symm) hl rfl rfl (Nat.le_of_ble_eq_true rfl) ⟨⟨rfl, rfl⟩, Nat.le_of_ble_eq_true rfl, Nat.le_of_ble_eq_true rfl⟩ ⟨Nat.zero_le _, Nat.zero_le _⟩ dX4_lastByWays_1 (fun H locs hP hD hS => ?_)
  obtain ⟨nF1_21, enF1_21⟩ : ∃ y : Nat → Int32, y = allW (g 14) (g 15) (g 16) (z 1) := ⟨_, rfl⟩
  have hP : va_P D vwCl (yrW cA ad (gs g 21 nF1_21) z) H := by rw [enF1_21]; exact hP
  have hD : va_D A (yrW cA ad (gs g 21 nF1_21) z) := by rw [enF1_21]; exact hD
  refine lv_aload_n hx hb dX4_lastByWays_4 rfl (lv_at hl 0 rfl) ?_
  refine q_get hx hb hT hown hK hP kw_X4 0 rfl rfl 1 (by decide) kf_X4_20 rfl (v := .ref (ad 13)) rfl dX4_lastByWays_5 ?_
  refine lv_iload_n hx hb dX4_lastByWays_8 rfl (lv_at hl 1 rfl) ?_
  refine q_callI (As := [.int (nI mi)]) (r := g 13 mi) (wc := rowW cA (ad 13) (ad 43) 16 (g 13)) (w1 := rowW cA (ad 13) (ad 43) 16 (g 13)) (ws1 := yrW cA ad (gs g 21 nF1_21) z) hx hb hml hown hT hK hP hD hS hA (c_X3_atN l D cA (ad 13) (ad 43) 16 (g 13) mi (by omega) (by omega)) k_X3_at kl_X4_54 (q0 := 0) rfl rfl rfl [3, 4] rfl rfl rfl rfl hl rfl rfl (Nat.le_of_ble_eq_true rfl) ⟨⟨rfl, rfl⟩, Nat.le_of_ble_eq_true rfl, Nat.le_of_ble_eq_true rfl⟩ ⟨Nat.zero_le _, Nat.zero_le _⟩ dX4_lastByWays_9 (fun H locs hP hD hS => ?_)
  refine lv_istore_n (lv' := [(2, .int (g 13 mi)), (0, .ref (ad 71)), (1, .int (nI mi))]) hx hb dX4_lastByWays_12 rfl hl (by decide) rfl (fun ls hl => ?_)
  refine lv_iconst (v := nI 0) hx hb dX4_lastByWays_13 (by decide +kernel) ?_
  refine lv_istore_n (lv' := [(3, .int (nI 0)), (2, .int (g 13 mi)), (0, .ref (ad 71)), (1, .int (nI mi))]) hx hb dX4_lastByWays_14 rfl hl (by decide) rfl (fun ls hl => ?_)
  rw [enF1_21] at hP hD
  have e9_0 : (g 13 mi) = (lstW (g 13) AW mi 0) := by first | with_reducible rfl | (rw [lstW_0])
  have hl9 : lv_has ls 5 [(0, .ref (ad 71)), (1, .int (nI mi)), (2, .int (lstW (g 13) AW mi 0)), (3, .int (nI 0))] := lv_cast (l := [(0, .ref (ad 71)), (1, .int (nI mi)), (2, .int (g 13 mi)), (3, .int (nI 0))]) (lv_sub hl [2, 3, 1, 0] rfl) (congrArg (fun v9 : Int32 => ([(0, .ref (ad 71)), (1, .int (nI mi)), (2, .int v9), (3, .int (nI 0))] : List (Nat × Value))) e9_0)
  have ew9 : (yrW cA ad (gs g 21 (allW (g 14) (g 15) (g 16) (z 1))) z) = (yrW cA ad (gs g 21 AW) z) := by first | with_reducible rfl | (rw [hAW])
  have hP : va_P D vwCl (yrW cA ad (gs g 21 AW) z) H := va_cast' hP ew9
  have hD : va_D A (yrW cA ad (gs g 21 AW) z) := va_castD hD ew9
  exact zqL15 (16 + 1) 0 (by omega) (by omega) _ _ _ hP hD hS hl9
end
section
theorem nx_and' (a b : Nat) : nI a &&& nI b = nI (a &&& b) := by
  apply Int32.toBitVec_inj.mp
  show BitVec.ofNat 32 a &&& BitVec.ofNat 32 b = BitVec.ofNat 32 (a &&& b)
  apply BitVec.eq_of_getLsbD_eq
  intro i hi
  simp [BitVec.getLsbD_and, BitVec.getLsbD_ofNat, hi]
theorem nx_xor' (a b : Nat) : nI a ^^^ nI b = nI (a ^^^ b) := by
  apply Int32.toBitVec_inj.mp
  show BitVec.ofNat 32 a ^^^ BitVec.ofNat 32 b = BitVec.ofNat 32 (a ^^^ b)
  apply BitVec.eq_of_getLsbD_eq
  intro i hi
  simp [BitVec.getLsbD_xor, BitVec.getLsbD_ofNat, hi]
/-- sums over the pairs that are together -/
def inS (tg : Nat → Nat → Bool) (pw : Nat → Int32) (i : Nat) : Nat → Int32
  | 0 => nI 0
  | j + 1 => if i < j ∧ tg i j = true then inS tg pw i j + pw (i * 6 + j) else inS tg pw i j
def ouS (tg : Nat → Nat → Bool) (pw : Nat → Int32) (n : Nat) : Nat → Int32
  | 0 => nI 0
  | i + 1 => ouS tg pw n i + inS tg pw i n
/-- a pair that is together is not right, among the first -/
def badP (tg : Nat → Nat → Bool) (pw : Nat → Int32) (i j : Nat) : Prop := i < j ∧ tg i j = true ∧ pw (i * 6 + j) = (-1000000)
def badI (tg : Nat → Nat → Bool) (pw : Nat → Int32) (i : Nat) : Nat → Bool
  | 0 => false
  | j + 1 => badI tg pw i j || decide (i < j ∧ tg i j = true ∧ pw (i * 6 + j) = (-1000000))
def badO (tg : Nat → Nat → Bool) (pw : Nat → Int32) (n : Nat) : Nat → Bool
  | 0 => false
  | i + 1 => badO tg pw n i || badI tg pw i n
def wOf (tg : Nat → Nat → Bool) (pw : Nat → Int32) (n : Nat) : Int32 := bif badO tg pw n n then (-1000000) else ouS tg pw n n
theorem badI_iff {tg : Nat → Nat → Bool} {pw : Nat → Int32} {i : Nat} : ∀ n, badI tg pw i n = true ↔ ∃ j, j < n ∧ badP tg pw i j
  | 0 => by simp [badI]
  | n + 1 => by
    rw [badI, Bool.or_eq_true, badI_iff n, decide_eq_true_iff]
    constructor
    · rintro (⟨j, h1, h2⟩ | h)
      · exact ⟨j, by omega, h2⟩
      · exact ⟨n, by omega, h⟩
    · rintro ⟨j, h1, h2⟩
      rcases Nat.lt_or_ge j n with q | q
      · exact Or.inl ⟨j, q, h2⟩
      · rw [show j = n by omega] at h2
        exact Or.inr h2
theorem badO_iff {tg : Nat → Nat → Bool} {pw : Nat → Int32} {n : Nat} : ∀ m, badO tg pw n m = true ↔ ∃ i j, i < m ∧ j < n ∧ badP tg pw i j
  | 0 => by simp [badO]
  | m + 1 => by
    rw [badO, Bool.or_eq_true, badO_iff m, badI_iff n]
    constructor
    · rintro (⟨i, j, h1, h2, h3⟩ | ⟨j, h1, h2⟩)
      · exact ⟨i, j, by omega, h2, h3⟩
      · exact ⟨m, j, by omega, h1, h2⟩
    · rintro ⟨i, j, h1, h2, h3⟩
      rcases Nat.lt_or_ge i m with q | q
      · exact Or.inl ⟨i, j, q, h2, h3⟩
      · rw [show i = m by omega] at h3
        exact Or.inr ⟨j, h2, h3⟩
theorem wOf_bad {tg : Nat → Nat → Bool} {pw : Nat → Int32} {n i j : Nat} (hi : i < n) (hj : j < n) (h : badP tg pw i j) : (-1000000) = wOf tg pw n := by
  rw [wOf, badO_iff n |>.2 ⟨i, j, hi, hj, h⟩]; rfl
theorem wOf_ok {tg : Nat → Nat → Bool} {pw : Nat → Int32} {n : Nat} (h : ∀ i j, i < n → j < n → ¬ badP tg pw i j) : ouS tg pw n n = wOf tg pw n := by
  have : badO tg pw n n = false := by
    cases hb : badO tg pw n n with
    | false => rfl
    | true =>
      obtain ⟨i, j, h1, h2, h3⟩ := (badO_iff n).1 hb
      exact absurd h3 (h i j h1 h2)
  rw [wOf, this]; rfl
theorem inS_0 {tg : Nat → Nat → Bool} {pw : Nat → Int32} {i : Nat} : ∀ j, j ≤ i + 1 → inS tg pw i j = nI 0
  | 0, _ => rfl
  | j + 1, h => by rw [inS, if_neg (fun z => by omega), inS_0 j (by omega)]
theorem add_nI0 (x : Int32) : x + nI 0 = x := Int32.add_zero x
theorem inS_t {tg : Nat → Nat → Bool} {pw : Nat → Int32} {i j : Nat} (x : Int32) (hij : i < j) (h : tg i j = true) : (x + inS tg pw i j) + pw (i * 6 + j) = x + inS tg pw i (j + 1) := by rw [inS, if_pos ⟨hij, h⟩, Int32.add_assoc]
theorem inS_f {tg : Nat → Nat → Bool} {pw : Nat → Int32} {i j : Nat} (x : Int32) (h : tg i j = false) : (x + inS tg pw i j) + nI 0 = x + inS tg pw i (j + 1) := by rw [inS, if_neg (fun z => by rw [h] at z; cases z.2), add_nI0]
def setT (x : Int32) (i j : Nat) : Bool := decide (¬ ((x >>> (nI i &&& 31)) &&& (x >>> (nI j &&& 31))) &&& nI 1 = 0)
def groT (gr : Nat → Int32) (i j : Nat) : Bool := decide (gr i = gr j)
/-- lowest bit, below 64 -/
def lowB (n : Nat) : Nat := if n % 2 = 1 then 1 else if n % 4 = 2 then 2 else if n % 8 = 4 then 4 else if n % 16 = 8 then 8 else if n % 32 = 16 then 16 else if n % 64 = 32 then 32 else 0
theorem lowB_neg : ∀ n, n < 64 → nI n &&& (-(nI n)) = nI (lowB n) := by decide +kernel
theorem lowB_lt : ∀ n, n < 64 → lowB n < 64 ∧ lowB n ≤ n := by decide +kernel
theorem lowB_and : ∀ n, n < 64 → ∀ k, k < lowB n → k &&& lowB n = 0 := by decide +kernel
theorem pw2_m1 : ∀ n, n ≤ 6 → (nI 1 <<< (nI n &&& 31)) - nI 1 = nI (2 ^ n - 1) := by decide +kernel
theorem pw2_le : ∀ n, n ≤ 6 → 2 ^ n ≤ 64 ∧ 1 ≤ 2 ^ n := by decide +kernel
/-- a part of the set with its least member -/
def prt (n k : Nat) : Bool := decide (k &&& n = k ∧ ¬ k &&& lowB n = 0)
def bosN (gw be : Nat → Int32) (n : Nat) : Nat → Int32
  | 0 => (-1000000)
  | k + 1 => if prt n k = true ∧ ¬ gw k = (-1000000) then mx (bosN gw be n k) (gw k + be (n ^^^ k)) else bosN gw be n k
def bos (gw be : Nat → Int32) (n : Nat) : Int32 := bosN gw be n (n + 1)
theorem bosN_0 {gw be : Nat → Int32} {n : Nat} (hn : n < 64) : ∀ k, k ≤ lowB n → bosN gw be n k = (-1000000)
  | 0, _ => rfl
  | k + 1, h => by
    rw [bosN, if_neg (fun z => by
      have h1 := z.1
      simp only [prt, decide_eq_true_eq] at h1
      exact h1.2 (lowB_and n hn k (by omega))), bosN_0 hn k (by omega)]
theorem bosN_t {gw be : Nat → Int32} {n k : Nat} (h : prt n k = true) (h2 : ¬ gw k = (-1000000)) : mx (bosN gw be n k) (gw k + be (n ^^^ k)) = bosN gw be n (k + 1) := by rw [bosN, if_pos ⟨h, h2⟩]
theorem bosN_f {gw be : Nat → Int32} {n k : Nat} (h : prt n k = false) : bosN gw be n k = bosN gw be n (k + 1) := by rw [bosN, if_neg (fun z => by rw [h] at z; cases z.1)]
theorem bosN_f2 {gw be : Nat → Int32} {n k : Nat} (h : gw k = (-1000000)) : bosN gw be n k = bosN gw be n (k + 1) := by rw [bosN, if_neg (fun z => z.2 h)]
def bpG (pw gw : Nat → Int32) (n : Nat) : Nat → Nat → Int32
  | 0 => gw
  | k + 1 => upd (bpG pw gw n k) (k + 1) (wOf (setT (nI (k + 1))) pw n)
def bpB (pw gw be : Nat → Int32) (n : Nat) : Nat → Nat → Int32
  | 0 => upd be 0 (nI 0)
  | k + 1 => upd (bpB pw gw be n k) (k + 1) (bos (bpG pw gw n (k + 1)) (bpB pw gw be n k) (k + 1))
/-- the greatest group among the first k -/
def ggb (gr : Nat → Int32) : Nat → Int32
  | 0 => nI 0
  | k + 1 => mx (ggb gr k) (gr k)
/-- the next grouping: from place k - 1 down -/
def goG (gr : Nat → Int32) : Nat → Nat → Int32
  | 0 => gr
  | k + 1 => if k = 0 then gr else if gr k ≤ ggb gr k then upd gr k (gr k + nI 1) else goG (upd gr k (nI 0)) k
def goB (gr : Nat → Int32) : Nat → Bool
  | 0 => false
  | k + 1 => if k = 0 then false else if gr k ≤ ggb gr k then true else goB (upd gr k (nI 0)) k
theorem goG_1 {gr : Nat → Int32} {k : Nat} (h : k ≤ 1) : goG gr k = gr ∧ goB gr k = false := by
  match k, h with
  | 0, _ => exact ⟨rfl, rfl⟩
  | 1, _ => exact ⟨by rw [goG, if_pos rfl], by rw [goB, if_pos rfl]⟩
theorem goG_t {gr : Nat → Int32} {k : Nat} (hk : 0 < k) (h : gr k ≤ ggb gr k) : goG gr (k + 1) = upd gr k (gr k + nI 1) ∧ goB gr (k + 1) = true := ⟨by rw [goG, if_neg (by omega), if_pos h], by rw [goB, if_neg (by omega), if_pos h]⟩
theorem goG_f {gr : Nat → Int32} {k : Nat} (hk : 0 < k) (h : ¬ gr k ≤ ggb gr k) : goG gr (k + 1) = goG (upd gr k (nI 0)) k ∧ goB gr (k + 1) = goB (upd gr k (nI 0)) k := ⟨by rw [goG, if_neg (by omega), if_neg h], by rw [goB, if_neg (by omega), if_neg h]⟩
/-- place k - 1 -/
def pm (k : Nat) : Int32 := nI k - nI 1
theorem pm_s {k : Nat} (h : 0 < k) : nI (k - 1) = pm k := (pk_sub (by omega)).symm
theorem pm_le {k : Nat} (hk : k ≤ 7) (h : pm k ≤ 0) : k ≤ 1 := by
  rcases Nat.lt_or_ge 1 k with q | q
  · exfalso
    rw [← pm_s (by omega)] at h
    exact nI_nle (by omega) (by omega) h
  · exact q
theorem pm_gt : ∀ k, k ≤ 7 → ¬ pm k ≤ 0 → 2 ≤ k := by decide +kernel
def baF (pw : Nat → Int32) (n : Nat) : Nat → (Nat → Int32) → Int32 → Int32
  | 0, _, b => b
  | f + 1, gr, b => bif goB gr n then baF pw n f (goG gr n) (mx b (wOf (groT (goG gr n)) pw n)) else b
def baG (n : Nat) : Nat → (Nat → Int32) → Nat → Int32
  | 0, gr => gr
  | f + 1, gr => bif goB gr n then baG n f (goG gr n) else goG gr n
theorem q_gt_of {x y : Int32} (h : y < x) : ¬ x ≤ y := by
  rw [Int32.lt_iff_toInt_lt] at h
  rw [Int32.le_iff_toInt_le]
  omega
theorem q_le_of {x y : Int32} (h : ¬ y < x) : x ≤ y := by
  rw [Int32.lt_iff_toInt_lt] at h
  rw [Int32.le_iff_toInt_le]
  omega
abbrev rm_X0_clear : Room := { frames := 0, cells := 0, slots := 0, locals := 0 }
set_option maxRecDepth 100000 in
set_option maxHeartbeats 4000000 in
theorem c_X0_clear (l : Launch) (D : va_G) (cA : ClassId) (ad : Nat → Nat) (g : Nat → Nat → Int32) (z : Nat → Nat)   : q_CV l yX0_clear [Cond.code yX0_clear cX0_clear 1 none] rm_X0_clear D cA [.ref (ad 73)] (gpW cA ad g z) (gpW cA ad g (zs z 3 0)) := by
  refine q_startV RX0 (by decide +kernel) rfl (Nat.le_of_ble_eq_true rfl) ?_
  intro p e s m below meth c A args H locs ls hx hb hr hml hown hT hlk hP hK hD hA hS hl
  have hl : lv_has ls 1 [(0, .ref (ad 73))] := hl
  refine lv_aload_n hx hb dX0_clear_0 rfl (lv_at hl 0 rfl) ?_
  refine lv_iconst (v := nI 0) hx hb dX0_clear_1 (by decide +kernel) ?_
  refine q_put (ty := .int) (ws1 := gpW cA ad g (zs z 3 0)) hx hb hT hown hK hP hD hS kw_X0 tyX0_ok nmX0 0 rfl rfl 5 (by decide) kf_X0_32 rfl rfl (by decide +kernel) rfl rfl (Nat.le_of_ble_eq_true rfl) rfl dX0_clear_2 (fun H locs hP hD hS => ?_)
  exact q_vret hx hb hr hlk hP hS dX0_clear_5
abbrev rm_X0_add : Room := { frames := 1, cells := 0, slots := 0, locals := 22 }
set_option maxRecDepth 100000 in
set_option maxHeartbeats 4000000 in
theorem c_X0_add (l : Launch) (D : va_G) (cA : ClassId) (ad : Nat → Nat) (g : Nat → Nat → Int32) (z : Nat → Nat) (x : Int32) (hz : (z 3) < 6) : q_CV l yX0_add [Cond.code yX0_add cX0_add 2 none] rm_X0_add D cA [.ref (ad 73), .int x] (gpW cA ad g z) (gpW cA ad (gs g 24 (upd (g 24) (z 3) x)) (zs z 3 ((z 3) + 1))) := by
  refine q_startV RX0 (by decide +kernel) rfl (Nat.le_of_ble_eq_true rfl) ?_
  intro p e s m below meth c A args H locs ls hx hb hr hml hown hT hlk hP hK hD hA hS hl
  have hl : lv_has ls 2 [(0, .ref (ad 73)), (1, .int x)] := hl
  refine lv_aload_n hx hb dX0_add_0 rfl (lv_at hl 0 rfl) ?_
  refine q_get hx hb hT hown hK hP kw_X0 0 rfl rfl 0 (by decide) kf_X0_14 rfl (v := .ref (ad 24)) rfl dX0_add_1 ?_
  refine lv_aload_n hx hb dX0_add_4 rfl (lv_at hl 0 rfl) ?_
  refine q_get hx hb hT hown hK hP kw_X0 0 rfl rfl 5 (by decide) kf_X0_32 rfl (v := .int (nI (z 3))) rfl dX0_add_5 ?_
  refine lv_iload_n hx hb dX0_add_8 rfl (lv_at hl 1 rfl) ?_
  refine q_callV (As := [.int (nI (z 3)), .int x]) (wc := rowW cA (ad 24) (ad 54) 6 (g 24)) (w1 := rowW cA (ad 24) (ad 54) 6 (upd (g 24) (z 3) x)) (ws1 := gpW cA ad (gs g 24 (upd (g 24) (z 3) x)) z) hx hb hml hown hT hK hP hD hS hA (c_X3_putN l D cA (ad 24) (ad 54) 6 (g 24) (z 3) x (by omega) (by omega)) k_X3_put kl_X0_36 (q0 := 0) rfl rfl rfl [1, 2] rfl rfl rfl rfl hl rfl rfl (Nat.le_of_ble_eq_true rfl) ⟨⟨rfl, rfl⟩, Nat.le_of_ble_eq_true rfl, Nat.le_of_ble_eq_true rfl⟩ ⟨Nat.zero_le _, Nat.zero_le _⟩ dX0_add_9 (fun H locs hP hD hS => ?_)
  obtain ⟨nF9_24, enF9_24⟩ : ∃ y : Nat → Int32, y = upd (g 24) (z 3) x := ⟨_, rfl⟩
  have hP : va_P D vwCl (gpW cA ad (gs g 24 nF9_24) z) H := by rw [enF9_24]; exact hP
  have hD : va_D A (gpW cA ad (gs g 24 nF9_24) z) := by rw [enF9_24]; exact hD
  refine lv_aload_n hx hb dX0_add_12 rfl (lv_at hl 0 rfl) ?_
  refine lv_dup hx hb dX0_add_13 rfl ?_
  refine q_get hx hb hT hown hK hP kw_X0 0 rfl rfl 5 (by decide) kf_X0_32 rfl (v := .int (nI (z 3))) rfl dX0_add_14 ?_
  refine lv_iconst (v := nI 1) hx hb dX0_add_17 (by decide +kernel) ?_
  refine lv_iadd hx hb dX0_add_18 ?_
  refine q_top (y := nI (z 3 + 1)) (nI_add _ _) ?_
  refine q_put (ty := .int) (ws1 := gpW cA ad (gs g 24 nF9_24) (zs z 3 (z 3 + 1))) hx hb hT hown hK hP hD hS kw_X0 tyX0_ok nmX0 0 rfl rfl 5 (by decide) kf_X0_32 rfl rfl (by decide +kernel) rfl rfl (Nat.le_of_ble_eq_true rfl) rfl dX0_add_19 (fun H locs hP hD hS => ?_)
  rw [enF9_24] at hP hD
  exact q_vret hx hb hr hlk (va_cast' hP (by rfl)) hS dX0_add_22
abbrev rm_X0_count : Room := { frames := 0, cells := 0, slots := 0, locals := 0 }
set_option maxRecDepth 100000 in
set_option maxHeartbeats 4000000 in
theorem c_X0_count (l : Launch) (D : va_G) (cA : ClassId) (ad : Nat → Nat) (g : Nat → Nat → Int32) (z : Nat → Nat)   : q_CI l yX0_count [Cond.code yX0_count cX0_count 1 (some .int)] rm_X0_count D cA [.ref (ad 73)] (gpW cA ad g z) (nI (z 3)) (gpW cA ad g z) := by
  refine q_startI RX0 (by decide +kernel) rfl (Nat.le_of_ble_eq_true rfl) ?_
  intro p e s m below meth c A args H locs ls hx hb hr hml hown hT hlk hP hK hD hA hS hl
  have hl : lv_has ls 1 [(0, .ref (ad 73))] := hl
  refine lv_aload_n hx hb dX0_count_0 rfl (lv_at hl 0 rfl) ?_
  refine q_get hx hb hT hown hK hP kw_X0 0 rfl rfl 5 (by decide) kf_X0_32 rfl (v := .int (nI (z 3))) rfl dX0_count_1 ?_
  exact q_iret hx hb hr hlk (by rfl) hP hS dX0_count_4
abbrev rm_X0_mentionAt : Room := { frames := 1, cells := 0, slots := 0, locals := 21 }
set_option maxRecDepth 100000 in
set_option maxHeartbeats 4000000 in
theorem c_X0_mentionAt (l : Launch) (D : va_G) (cA : ClassId) (ad : Nat → Nat) (g : Nat → Nat → Int32) (z : Nat → Nat) (k : Nat) (hk : k < 6) : q_CI l yX0_mentionAt [Cond.code yX0_mentionAt cX0_mentionAt 2 (some .int)] rm_X0_mentionAt D cA [.ref (ad 73), .int (nI k)] (gpW cA ad g z) ((g 24) k) (gpW cA ad g z) := by
  refine q_startI RX0 (by decide +kernel) rfl (Nat.le_of_ble_eq_true rfl) ?_
  intro p e s m below meth c A args H locs ls hx hb hr hml hown hT hlk hP hK hD hA hS hl
  have hl : lv_has ls 2 [(0, .ref (ad 73)), (1, .int (nI k))] := hl
  refine lv_aload_n hx hb dX0_mentionAt_0 rfl (lv_at hl 0 rfl) ?_
  refine q_get hx hb hT hown hK hP kw_X0 0 rfl rfl 0 (by decide) kf_X0_14 rfl (v := .ref (ad 24)) rfl dX0_mentionAt_1 ?_
  refine lv_iload_n hx hb dX0_mentionAt_4 rfl (lv_at hl 1 rfl) ?_
  refine q_callI (As := [.int (nI k)]) (r := g 24 k) (wc := rowW cA (ad 24) (ad 54) 6 (g 24)) (w1 := rowW cA (ad 24) (ad 54) 6 (g 24)) (ws1 := gpW cA ad g z) hx hb hml hown hT hK hP hD hS hA (c_X3_atN l D cA (ad 24) (ad 54) 6 (g 24) k (by omega) (by omega)) k_X3_at kl_X0_40 (q0 := 0) rfl rfl rfl [1, 2] rfl rfl rfl rfl hl rfl rfl (Nat.le_of_ble_eq_true rfl) ⟨⟨rfl, rfl⟩, Nat.le_of_ble_eq_true rfl, Nat.le_of_ble_eq_true rfl⟩ ⟨Nat.zero_le _, Nat.zero_le _⟩ dX0_mentionAt_5 (fun H locs hP hD hS => ?_)
  exact q_iret hx hb hr hlk (by rfl) hP hS dX0_mentionAt_8
abbrev rm_X0_putWorth : Room := { frames := 1, cells := 0, slots := 0, locals := 22 }
set_option maxRecDepth 100000 in
set_option maxHeartbeats 4000000 in
theorem c_X0_putWorth (l : Launch) (D : va_G) (cA : ClassId) (ad : Nat → Nat) (g : Nat → Nat → Int32) (z : Nat → Nat) (i : Nat) (j : Nat) (x : Int32) (hi : i < 6) (hj : j < 6) : q_CV l yX0_putWorth [Cond.code yX0_putWorth cX0_putWorth 4 none] rm_X0_putWorth D cA [.ref (ad 73), .int (nI i), .int (nI j), .int x] (gpW cA ad g z) (gpW cA ad (gs g 25 (upd (g 25) (i * 6 + j) x)) z) := by
  refine q_startV RX0 (by decide +kernel) rfl (Nat.le_of_ble_eq_true rfl) ?_
  intro p e s m below meth c A args H locs ls hx hb hr hml hown hT hlk hP hK hD hA hS hl
  have hl : lv_has ls 4 [(0, .ref (ad 73)), (1, .int (nI i)), (2, .int (nI j)), (3, .int x)] := hl
  refine lv_aload_n hx hb dX0_putWorth_0 rfl (lv_at hl 0 rfl) ?_
  refine q_get hx hb hT hown hK hP kw_X0 0 rfl rfl 1 (by decide) kf_X0_20 rfl (v := .ref (ad 25)) rfl dX0_putWorth_1 ?_
  refine lv_iload_n hx hb dX0_putWorth_4 rfl (lv_at hl 1 rfl) ?_
  refine lv_bipush (v := nI 6) hx hb dX0_putWorth_5 (by decide +kernel) ?_
  refine lv_imul hx hb dX0_putWorth_7 ?_
  refine q_top (y := nI (i * 6)) (pk_mul _ _) ?_
  refine lv_iload_n hx hb dX0_putWorth_8 rfl (lv_at hl 2 rfl) ?_
  refine lv_iadd hx hb dX0_putWorth_9 ?_
  refine q_top (y := nI ((i * 6) + j)) (nI_add _ _) ?_
  refine lv_iload_n hx hb dX0_putWorth_10 rfl (lv_at hl 3 rfl) ?_
  refine q_callV (As := [.int (nI ((i * 6) + j)), .int x]) (wc := rowW cA (ad 25) (ad 55) 36 (g 25)) (w1 := rowW cA (ad 25) (ad 55) 36 (upd (g 25) ((i * 6) + j) x)) (ws1 := gpW cA ad (gs g 25 (upd (g 25) ((i * 6) + j) x)) z) hx hb hml hown hT hK hP hD hS hA (c_X3_putN l D cA (ad 25) (ad 55) 36 (g 25) ((i * 6) + j) x (by omega) (by omega)) k_X3_put kl_X0_36 (q0 := 0) rfl rfl rfl [3, 4] rfl rfl rfl rfl hl rfl rfl (Nat.le_of_ble_eq_true rfl) ⟨⟨rfl, rfl⟩, Nat.le_of_ble_eq_true rfl, Nat.le_of_ble_eq_true rfl⟩ ⟨Nat.zero_le _, Nat.zero_le _⟩ dX0_putWorth_11 (fun H locs hP hD hS => ?_)
  obtain ⟨nF11_25, enF11_25⟩ : ∃ y : Nat → Int32, y = upd (g 25) ((i * 6) + j) x := ⟨_, rfl⟩
  have hP : va_P D vwCl (gpW cA ad (gs g 25 nF11_25) z) H := by rw [enF11_25]; exact hP
  have hD : va_D A (gpW cA ad (gs g 25 nF11_25) z) := by rw [enF11_25]; exact hD
  rw [enF11_25] at hP hD
  exact q_vret hx hb hr hlk (va_cast' hP (by rfl)) hS dX0_putWorth_14
abbrev rm_X0_pairWorth : Room := { frames := 1, cells := 0, slots := 0, locals := 21 }
set_option maxRecDepth 100000 in
set_option maxHeartbeats 4000000 in
theorem c_X0_pairWorth (l : Launch) (D : va_G) (cA : ClassId) (ad : Nat → Nat) (g : Nat → Nat → Int32) (z : Nat → Nat) (i : Nat) (j : Nat) (hi : i < 6) (hj : j < 6) : q_CI l yX0_pairWorth [Cond.code yX0_pairWorth cX0_pairWorth 3 (some .int)] rm_X0_pairWorth D cA [.ref (ad 73), .int (nI i), .int (nI j)] (gpW cA ad g z) ((g 25) (i * 6 + j)) (gpW cA ad g z) := by
  refine q_startI RX0 (by decide +kernel) rfl (Nat.le_of_ble_eq_true rfl) ?_
  intro p e s m below meth c A args H locs ls hx hb hr hml hown hT hlk hP hK hD hA hS hl
  have hl : lv_has ls 3 [(0, .ref (ad 73)), (1, .int (nI i)), (2, .int (nI j))] := hl
  refine lv_aload_n hx hb dX0_pairWorth_0 rfl (lv_at hl 0 rfl) ?_
  refine q_get hx hb hT hown hK hP kw_X0 0 rfl rfl 1 (by decide) kf_X0_20 rfl (v := .ref (ad 25)) rfl dX0_pairWorth_1 ?_
  refine lv_iload_n hx hb dX0_pairWorth_4 rfl (lv_at hl 1 rfl) ?_
  refine lv_bipush (v := nI 6) hx hb dX0_pairWorth_5 (by decide +kernel) ?_
  refine lv_imul hx hb dX0_pairWorth_7 ?_
  refine q_top (y := nI (i * 6)) (pk_mul _ _) ?_
  refine lv_iload_n hx hb dX0_pairWorth_8 rfl (lv_at hl 2 rfl) ?_
  refine lv_iadd hx hb dX0_pairWorth_9 ?_
  refine q_top (y := nI ((i * 6) + j)) (nI_add _ _) ?_
  refine q_callI (As := [.int (nI ((i * 6) + j))]) (r := g 25 ((i * 6) + j)) (wc := rowW cA (ad 25) (ad 55) 36 (g 25)) (w1 := rowW cA (ad 25) (ad 55) 36 (g 25)) (ws1 := gpW cA ad g z) hx hb hml hown hT hK hP hD hS hA (c_X3_atN l D cA (ad 25) (ad 55) 36 (g 25) ((i * 6) + j) (by omega) (by omega)) k_X3_at kl_X0_40 (q0 := 0) rfl rfl rfl [3, 4] rfl rfl rfl rfl hl rfl rfl (Nat.le_of_ble_eq_true rfl) ⟨⟨rfl, rfl⟩, Nat.le_of_ble_eq_true rfl, Nat.le_of_ble_eq_true rfl⟩ ⟨Nat.zero_le _, Nat.zero_le _⟩ dX0_pairWorth_10 (fun H locs hP hD hS => ?_)
  exact q_iret hx hb hr hlk (by rfl) hP hS dX0_pairWorth_13
abbrev rm_X0_worthOfGroup : Room := { frames := 2, cells := 0, slots := 0, locals := 43 }
set_option maxRecDepth 100000 in
set_option maxHeartbeats 4000000 in
theorem c_X0_worthOfGroup (l : Launch) (D : va_G) (cA : ClassId) (ad : Nat → Nat) (g : Nat → Nat → Int32) (z : Nat → Nat) (x : Nat) (hx9 : x < 64) (hz : (z 3) ≤ 6) : q_CI l yX0_worthOfGroup [Cond.code yX0_worthOfGroup cX0_worthOfGroup 6 (some .int)] rm_X0_worthOfGroup D cA [.ref (ad 73), .int (nI x)] (gpW cA ad g z) (wOf (setT (nI x)) (g 25) (z 3)) (gpW cA ad g z) := by
  refine q_startI RX0 (by decide +kernel) rfl (Nat.le_of_ble_eq_true rfl) ?_
  intro p e s m below meth c A args H locs ls hx hb hr hml hown hT hlk hP hK hD hA hS hl
  have hl : lv_has ls 6 [(0, .ref (ad 73)), (1, .int (nI x))] := hl
  have zqL4 : ∀ (fu : Nat), ∀ (i : Nat), (z 3 + 1 ≤ i + fu) → (i ≤ (z 3)) → (∀ i2 j2, i2 < i → j2 < (z 3) → ¬ badP (setT (nI x)) (g 25) i2 j2) → ∀ (H : Heap) (locs : List Loc) (ls : Array Slot), va_P D vwCl (gpW cA ad g z) H → va_D A (gpW cA ad g z) → va_S A s.heap H locs → lv_has ls 6 [(0, .ref (ad 73)), (1, .int (nI x)), (2, .int (ouS (setT (nI x)) (g 25) (z 3) i)), (3, .int (nI i))] → W p l e rm_X0_worthOfGroup s m args below meth c H locs 0 0 (q_GI D (wOf (setT (nI x)) (g 25) (z 3)) (gpW cA ad g z) A below args s) (F0 m 4 ls []) := by
    intro fu
    induction fu with
    | zero =>
      intro i hfu hi hbd H locs ls hP hD hS hl
      exfalso; omega
    | succ fu ih4 =>
      intro i hfu hi hbd H locs ls hP hD hS hl
      have zqL17 : ∀ (fu : Nat), ∀ (j : Nat), (z 3 + 1 ≤ j + fu) → (j ≤ (z 3)) → (i < j) → (i < (z 3)) → (∀ i2 j2, (i2 < i ∨ (i2 = i ∧ j2 < j)) → j2 < (z 3) → ¬ badP (setT (nI x)) (g 25) i2 j2) → ∀ (H : Heap) (locs : List Loc) (ls : Array Slot), va_P D vwCl (gpW cA ad g z) H → va_D A (gpW cA ad g z) → va_S A s.heap H locs → lv_has ls 6 [(0, .ref (ad 73)), (1, .int (nI x)), (2, .int (ouS (setT (nI x)) (g 25) (z 3) i + inS (setT (nI x)) (g 25) i j)), (3, .int (nI i)), (4, .int (nI j))] → W p l e rm_X0_worthOfGroup s m args below meth c H locs 0 0 (q_GI D (wOf (setT (nI x)) (g 25) (z 3)) (gpW cA ad g z) A below args s) (F0 m 17 ls []) := by
        intro fu
        induction fu with
        | zero =>
          intro j hfu hj hij hi9 hb2 H locs ls hP hD hS hl
          exfalso; omega
        | succ fu ih17 =>
          intro j hfu hj hij hi9 hb2 H locs ls hP hD hS hl
          have zqJ44 : (j < (z 3)) → ∀ (H : Heap) (locs : List Loc) (ls : Array Slot), va_P D vwCl (gpW cA ad g z) H → va_D A (gpW cA ad g z) → va_S A s.heap H locs → lv_has ls 6 [(0, .ref (ad 73)), (1, .int (nI x)), (2, .int (ouS (setT (nI x)) (g 25) (z 3) i + inS (setT (nI x)) (g 25) i j)), (3, .int (nI i)), (4, .int (nI j))] → W p l e rm_X0_worthOfGroup s m args below meth c H locs 0 0 (q_GI D (wOf (setT (nI x)) (g 25) (z 3)) (gpW cA ad g z) A below args s) (F0 m 44 ls [.int (q_b ((setT (nI x)) i j))]) := by
            intro  hj9 H locs ls hP hD hS hl
            have zqJ66 : (¬ badP (setT (nI x)) (g 25) i j) → ∀ (H : Heap) (locs : List Loc) (ls : Array Slot), va_P D vwCl (gpW cA ad g z) H → va_D A (gpW cA ad g z) → va_S A s.heap H locs → lv_has ls 6 [(0, .ref (ad 73)), (1, .int (nI x)), (2, .int (ouS (setT (nI x)) (g 25) (z 3) i + inS (setT (nI x)) (g 25) i j)), (3, .int (nI i)), (4, .int (nI j)), (5, .int (q_b ((setT (nI x)) i j)))] → W p l e rm_X0_worthOfGroup s m args below meth c H locs 0 0 (q_GI D (wOf (setT (nI x)) (g 25) (z 3)) (gpW cA ad g z) A below args s) (F0 m 66 ls []) := by
              intro  hn9 H locs ls hP hD hS hl
              have zqJ83 : ∀ (H : Heap) (locs : List Loc) (ls : Array Slot), va_P D vwCl (gpW cA ad g z) H → va_D A (gpW cA ad g z) → va_S A s.heap H locs → lv_has ls 6 [(0, .ref (ad 73)), (1, .int (nI x)), (3, .int (nI i)), (4, .int (nI j)), (5, .int (q_b ((setT (nI x)) i j)))] → W p l e rm_X0_worthOfGroup s m args below meth c H locs 0 0 (q_GI D (wOf (setT (nI x)) (g 25) (z 3)) (gpW cA ad g z) A below args s) (F0 m 83 ls [.int (bif (setT (nI x)) i j then (g 25) (i * 6 + j) else nI 0), .int (ouS (setT (nI x)) (g 25) (z 3) i + inS (setT (nI x)) (g 25) i j)]) := by
                intro   H locs ls hP hD hS hl
                refine lv_iadd hx hb dX0_worthOfGroup_83 ?_
                refine q_top (y := ouS (setT (nI x)) (g 25) (z 3) i + inS (setT (nI x)) (g 25) i (j + 1)) (by cases h9 : (setT (nI x)) i j; exact inS_f _ h9; exact inS_t _ hij h9) ?_
                refine lv_istore_n (lv' := [(2, .int (ouS (setT (nI x)) (g 25) (z 3) i + inS (setT (nI x)) (g 25) i (j + 1))), (0, .ref (ad 73)), (1, .int (nI x)), (3, .int (nI i)), (4, .int (nI j)), (5, .int (q_b ((setT (nI x)) i j)))]) hx hb dX0_worthOfGroup_84 rfl hl (by decide) rfl (fun ls hl => ?_)
                refine lv_iinc (v := nI (j + 1)) (lv' := [(4, .int (nI (j + 1))), (2, .int (ouS (setT (nI x)) (g 25) (z 3) i + inS (setT (nI x)) (g 25) i (j + 1))), (0, .ref (ad 73)), (1, .int (nI x)), (3, .int (nI i)), (5, .int (q_b ((setT (nI x)) i j)))]) hx hb dX0_worthOfGroup_85 hl (k := 4) rfl (q_inc1 _) (by decide) rfl (fun ls hl => ?_)
                refine lv_goto (tgt := 17) hx hb dX0_worthOfGroup_88 (by decide) ?_
                exact ih17 (j + 1) (by omega) (by omega) (by omega) (by omega) (fun i2 j2 h1 h2 => by rcases Nat.lt_or_ge j2 j with q | q; exact hb2 i2 j2 (by omega) h2; by_cases e1 : i2 = i ∧ j2 = j; rw [e1.1, e1.2]; exact hn9; exact hb2 i2 j2 (by omega) h2) _ _ _ hP hD hS (lv_sub hl [2, 3, 1, 4, 0] rfl)
              refine lv_iload_n hx hb dX0_worthOfGroup_66 rfl (lv_at hl 2 rfl) ?_
              refine lv_iload hx hb dX0_worthOfGroup_67 (lv_at hl 5 rfl) ?_
              refine lv_if_eq (tgt := 82) hx hb dX0_worthOfGroup_69 (by decide) (fun c_69 => ?_) (fun c_69 => ?_)
              · have c_69 := q_b0e c_69
                refine lv_iconst (v := nI 0) hx hb dX0_worthOfGroup_82 (by decide +kernel) ?_
                refine q_top (y := (bif (setT (nI x)) i j then (g 25) (i * 6 + j) else nI 0)) (by rw [c_69]; rfl) ?_
                exact zqJ83   _ _ _ hP hD hS (lv_sub hl [0, 1, 3, 4, 5] rfl)
              · have c_69 := q_b0n c_69
                refine lv_aload_n hx hb dX0_worthOfGroup_72 rfl (lv_at hl 0 rfl) ?_
                refine lv_iload_n hx hb dX0_worthOfGroup_73 rfl (lv_at hl 3 rfl) ?_
                refine lv_iload hx hb dX0_worthOfGroup_74 (lv_at hl 4 rfl) ?_
                refine q_callIW (As := [.int (nI i), .int (nI j)]) (r := (g 25) (i * 6 + j)) (w1 := gpW cA ad g z) hx hb hml hown hT hK hP hD hS hA (c_X0_pairWorth l D cA ad g z i j (show i < 6 by omega) (show j < 6 by omega)) k_X0_pairWorth kl_X0_50 (q0 := 0) rfl rfl rfl ((gpW_adr _ _ _ _).trans (gpW_adr _ _ _ _).symm) hl rfl rfl (Nat.le_of_ble_eq_true rfl) ⟨⟨rfl, rfl⟩, Nat.le_of_ble_eq_true rfl, Nat.le_of_ble_eq_true rfl⟩ ⟨Nat.zero_le _, Nat.zero_le _⟩ dX0_worthOfGroup_76 (fun H locs hP hD hS => ?_)
                refine lv_goto (tgt := 83) hx hb dX0_worthOfGroup_79 (by decide) ?_
                refine q_top (y := (bif (setT (nI x)) i j then (g 25) (i * 6 + j) else nI 0)) (by rw [c_69]; rfl) ?_
                exact zqJ83   _ _ _ hP hD hS (lv_sub hl [0, 1, 3, 4, 5] rfl)
            refine lv_istore (lv' := [(5, .int (q_b ((setT (nI x)) i j))), (0, .ref (ad 73)), (1, .int (nI x)), (2, .int (ouS (setT (nI x)) (g 25) (z 3) i + inS (setT (nI x)) (g 25) i j)), (3, .int (nI i)), (4, .int (nI j))]) hx hb dX0_worthOfGroup_44 hl (by decide) rfl (fun ls hl => ?_)
            refine lv_iload hx hb dX0_worthOfGroup_46 (lv_at hl 0 rfl) ?_
            refine lv_if_eq (tgt := 66) hx hb dX0_worthOfGroup_48 (by decide) (fun c_48 => ?_) (fun c_48 => ?_)
            · have c_48 := q_b0e c_48
              exact zqJ66  (fun h => by have h2 := h.2.1; rw [c_48] at h2; cases h2) _ _ _ hP hD hS (lv_sub hl [1, 2, 3, 4, 5, 0] rfl)
            · have c_48 := q_b0n c_48
              refine lv_aload_n hx hb dX0_worthOfGroup_51 rfl (lv_at hl 1 rfl) ?_
              refine lv_iload_n hx hb dX0_worthOfGroup_52 rfl (lv_at hl 4 rfl) ?_
              refine lv_iload hx hb dX0_worthOfGroup_53 (lv_at hl 5 rfl) ?_
              refine q_callIW (As := [.int (nI i), .int (nI j)]) (r := (g 25) (i * 6 + j)) (w1 := gpW cA ad g z) hx hb hml hown hT hK hP hD hS hA (c_X0_pairWorth l D cA ad g z i j (show i < 6 by omega) (show j < 6 by omega)) k_X0_pairWorth kl_X0_50 (q0 := 0) rfl rfl rfl ((gpW_adr _ _ _ _).trans (gpW_adr _ _ _ _).symm) hl rfl rfl (Nat.le_of_ble_eq_true rfl) ⟨⟨rfl, rfl⟩, Nat.le_of_ble_eq_true rfl, Nat.le_of_ble_eq_true rfl⟩ ⟨Nat.zero_le _, Nat.zero_le _⟩ dX0_worthOfGroup_55 (fun H locs hP hD hS => ?_)
              refine lv_ldc (v := (-1000000)) hx hb hown (hT.use kk_X0_54 args) dX0_worthOfGroup_58 ?_
              refine lv_icmp_ne (tgt := 66) hx hb dX0_worthOfGroup_60 (by decide) (fun c_60 => ?_) (fun c_60 => ?_)
              · exact zqJ66  (fun h => c_60 h.2.2) _ _ _ hP hD hS (lv_sub hl [1, 2, 3, 4, 5, 0] rfl)
              · refine lv_ldc (v := (-1000000)) hx hb hown (hT.use kk_X0_54 args) dX0_worthOfGroup_63 ?_
                exact q_iret hx hb hr hlk (by exact wOf_bad (i := i) (j := j) (by omega) (by omega) ⟨hij, c_48, c_60⟩) hP hS dX0_worthOfGroup_65
          refine lv_iload hx hb dX0_worthOfGroup_17 (lv_at hl 4 rfl) ?_
          refine lv_aload_n hx hb dX0_worthOfGroup_19 rfl (lv_at hl 0 rfl) ?_
          refine q_get hx hb hT hown hK hP kw_X0 0 rfl rfl 5 (by decide) kf_X0_32 rfl (v := .int (nI (z 3))) rfl dX0_worthOfGroup_20 ?_
          refine lv_icmp_ge (tgt := 91) hx hb dX0_worthOfGroup_23 (by decide) (fun c_23 => ?_) (fun c_23 => ?_)
          · have c_23 := nI_le1 (a := z 3) (b := j) (by omega) (by omega) c_23
            refine lv_iinc (v := nI (i + 1)) (lv' := [(3, .int (nI (i + 1))), (0, .ref (ad 73)), (1, .int (nI x)), (2, .int (ouS (setT (nI x)) (g 25) (z 3) i + inS (setT (nI x)) (g 25) i j)), (4, .int (nI j))]) hx hb dX0_worthOfGroup_91 hl (k := 3) rfl (q_inc1 _) (by decide) rfl (fun ls hl => ?_)
            refine lv_goto (tgt := 4) hx hb dX0_worthOfGroup_94 (by decide) ?_
            have e9_0 : (ouS (setT (nI x)) (g 25) (z 3) i + inS (setT (nI x)) (g 25) i j) = (ouS (setT (nI x)) (g 25) (z 3) (i + 1)) := by first | with_reducible rfl | (rw [show j = z 3 by omega]; rfl)
            have hl9 : lv_has ls 6 [(0, .ref (ad 73)), (1, .int (nI x)), (2, .int (ouS (setT (nI x)) (g 25) (z 3) (i + 1))), (3, .int (nI (i + 1)))] := lv_cast (l := [(0, .ref (ad 73)), (1, .int (nI x)), (2, .int (ouS (setT (nI x)) (g 25) (z 3) i + inS (setT (nI x)) (g 25) i j)), (3, .int (nI (i + 1)))]) (lv_sub hl [1, 2, 3, 0] rfl) (congrArg (fun v9 : Int32 => ([(0, .ref (ad 73)), (1, .int (nI x)), (2, .int v9), (3, .int (nI (i + 1)))] : List (Nat × Value))) e9_0)
            exact ih4 (i + 1) (by omega) (by omega) (fun i2 j2 h1 h2 => hb2 i2 j2 (by omega) h2) _ _ _ hP hD hS hl9
          · have c_23 := nI_le0 (a := z 3) (b := j) (by omega) (by omega) c_23
            refine lv_iload_n hx hb dX0_worthOfGroup_26 rfl (lv_at hl 1 rfl) ?_
            refine lv_iload_n hx hb dX0_worthOfGroup_27 rfl (lv_at hl 3 rfl) ?_
            refine lv_ishr hx hb dX0_worthOfGroup_28 ?_
            refine lv_iload_n hx hb dX0_worthOfGroup_29 rfl (lv_at hl 1 rfl) ?_
            refine lv_iload hx hb dX0_worthOfGroup_30 (lv_at hl 4 rfl) ?_
            refine lv_ishr hx hb dX0_worthOfGroup_32 ?_
            refine lv_iand hx hb dX0_worthOfGroup_33 ?_
            refine lv_iconst (v := nI 1) hx hb dX0_worthOfGroup_34 (by decide +kernel) ?_
            refine lv_iand hx hb dX0_worthOfGroup_35 ?_
            refine lv_if_eq (tgt := 43) hx hb dX0_worthOfGroup_36 (by decide) (fun c_36 => ?_) (fun c_36 => ?_)
            · refine lv_iconst (v := nI 0) hx hb dX0_worthOfGroup_43 (by decide +kernel) ?_
              refine q_top (y := q_b ((setT (nI x)) i j)) (by first | exact q_bt (decide_eq_true c_36) | exact q_bf (decide_eq_false (fun h => h c_36)) | exact q_bf (decide_eq_false c_36)) ?_
              exact zqJ44  (by omega) _ _ _ hP hD hS (lv_sub hl [0, 1, 2, 3, 4] rfl)
            · refine lv_iconst (v := nI 1) hx hb dX0_worthOfGroup_39 (by decide +kernel) ?_
              refine lv_goto (tgt := 44) hx hb dX0_worthOfGroup_40 (by decide) ?_
              refine q_top (y := q_b ((setT (nI x)) i j)) (by first | exact q_bt (decide_eq_true c_36) | exact q_bf (decide_eq_false (fun h => h c_36)) | exact q_bf (decide_eq_false c_36)) ?_
              exact zqJ44  (by omega) _ _ _ hP hD hS (lv_sub hl [0, 1, 2, 3, 4] rfl)
      refine lv_iload_n hx hb dX0_worthOfGroup_4 rfl (lv_at hl 3 rfl) ?_
      refine lv_aload_n hx hb dX0_worthOfGroup_5 rfl (lv_at hl 0 rfl) ?_
      refine q_get hx hb hT hown hK hP kw_X0 0 rfl rfl 5 (by decide) kf_X0_32 rfl (v := .int (nI (z 3))) rfl dX0_worthOfGroup_6 ?_
      refine lv_icmp_ge (tgt := 97) hx hb dX0_worthOfGroup_9 (by decide) (fun c_9 => ?_) (fun c_9 => ?_)
      · have c_9 := nI_le1 (a := z 3) (b := i) (by omega) (by omega) c_9
        refine lv_iload_n hx hb dX0_worthOfGroup_97 rfl (lv_at hl 2 rfl) ?_
        exact q_iret hx hb hr hlk (by rw [show i = z 3 by omega]; exact wOf_ok (fun i2 j2 h1 h2 => hbd i2 j2 (by omega) h2)) hP hS dX0_worthOfGroup_98
      · have c_9 := nI_le0 (a := z 3) (b := i) (by omega) (by omega) c_9
        refine lv_iload_n hx hb dX0_worthOfGroup_12 rfl (lv_at hl 3 rfl) ?_
        refine lv_iconst (v := nI 1) hx hb dX0_worthOfGroup_13 (by decide +kernel) ?_
        refine lv_iadd hx hb dX0_worthOfGroup_14 ?_
        refine q_top (y := nI (i + 1)) (nI_add _ _) ?_
        refine lv_istore (lv' := [(4, .int (nI (i + 1))), (0, .ref (ad 73)), (1, .int (nI x)), (2, .int (ouS (setT (nI x)) (g 25) (z 3) i)), (3, .int (nI i))]) hx hb dX0_worthOfGroup_15 hl (by decide) rfl (fun ls hl => ?_)
        have e9_0 : (ouS (setT (nI x)) (g 25) (z 3) i) = (ouS (setT (nI x)) (g 25) (z 3) i + inS (setT (nI x)) (g 25) i (i + 1)) := by first | with_reducible rfl | (rw [inS_0 (i + 1) (by omega), add_nI0])
        have hl9 : lv_has ls 6 [(0, .ref (ad 73)), (1, .int (nI x)), (2, .int (ouS (setT (nI x)) (g 25) (z 3) i + inS (setT (nI x)) (g 25) i (i + 1))), (3, .int (nI i)), (4, .int (nI (i + 1)))] := lv_cast (l := [(0, .ref (ad 73)), (1, .int (nI x)), (2, .int (ouS (setT (nI x)) (g 25) (z 3) i)), (3, .int (nI i)), (4, .int (nI (i + 1)))]) (lv_sub hl [1, 2, 3, 4, 0] rfl) (congrArg (fun v9 : Int32 => ([(0, .ref (ad 73)), (1, .int (nI x)), (2, .int v9), (3, .int (nI i)), (4, .int (nI (i + 1)))] : List (Nat × Value))) e9_0)
        exact zqL17 (z 3 + 1) (i + 1) (by omega) (by omega) (by omega) (by omega) (fun i2 j2 h1 h2 h3 => by rcases h1 with h1 | ⟨h1, h4⟩; exact hbd i2 j2 h1 h2 h3; exact absurd h3.1 (by omega)) _ _ _ hP hD hS hl9
  refine lv_iconst (v := nI 0) hx hb dX0_worthOfGroup_0 (by decide +kernel) ?_
  refine lv_istore_n (lv' := [(2, .int (nI 0)), (0, .ref (ad 73)), (1, .int (nI x))]) hx hb dX0_worthOfGroup_1 rfl hl (by decide) rfl (fun ls hl => ?_)
  refine lv_iconst (v := nI 0) hx hb dX0_worthOfGroup_2 (by decide +kernel) ?_
  refine lv_istore_n (lv' := [(3, .int (nI 0)), (2, .int (nI 0)), (0, .ref (ad 73)), (1, .int (nI x))]) hx hb dX0_worthOfGroup_3 rfl hl (by decide) rfl (fun ls hl => ?_)
  have e9_0 : (nI 0) = (ouS (setT (nI x)) (g 25) (z 3) 0) := by first | with_reducible rfl | (rfl)
  have hl9 : lv_has ls 6 [(0, .ref (ad 73)), (1, .int (nI x)), (2, .int (ouS (setT (nI x)) (g 25) (z 3) 0)), (3, .int (nI 0))] := lv_cast (l := [(0, .ref (ad 73)), (1, .int (nI x)), (2, .int (nI 0)), (3, .int (nI 0))]) (lv_sub hl [2, 3, 1, 0] rfl) (congrArg (fun v9 : Int32 => ([(0, .ref (ad 73)), (1, .int (nI x)), (2, .int v9), (3, .int (nI 0))] : List (Nat × Value))) e9_0)
  exact zqL4 (z 3 + 1) 0 (by omega) (by omega) (fun _ _ h => absurd h (Nat.not_lt_zero _)) _ _ _ hP hD hS hl9
abbrev rm_X0_worthOfGrouping : Room := { frames := 2, cells := 0, slots := 0, locals := 43 }
set_option maxRecDepth 100000 in
set_option maxHeartbeats 4000000 in
theorem c_X0_worthOfGrouping (l : Launch) (D : va_G) (cA : ClassId) (ad : Nat → Nat) (g : Nat → Nat → Int32) (z : Nat → Nat)  (hz : (z 3) ≤ 6) : q_CI l yX0_worthOfGrouping [Cond.code yX0_worthOfGrouping cX0_worthOfGrouping 5 (some .int)] rm_X0_worthOfGrouping D cA [.ref (ad 73)] (gpW cA ad g z) (wOf (groT (g 28)) (g 25) (z 3)) (gpW cA ad g z) := by
  refine q_startI RX0 (by decide +kernel) rfl (Nat.le_of_ble_eq_true rfl) ?_
  intro p e s m below meth c A args H locs ls hx hb hr hml hown hT hlk hP hK hD hA hS hl
  have hl : lv_has ls 5 [(0, .ref (ad 73))] := hl
  have zqL4 : ∀ (fu : Nat), ∀ (i : Nat), (z 3 + 1 ≤ i + fu) → (i ≤ (z 3)) → (∀ i2 j2, i2 < i → j2 < (z 3) → ¬ badP (groT (g 28)) (g 25) i2 j2) → ∀ (H : Heap) (locs : List Loc) (ls : Array Slot), va_P D vwCl (gpW cA ad g z) H → va_D A (gpW cA ad g z) → va_S A s.heap H locs → lv_has ls 5 [(0, .ref (ad 73)), (1, .int (ouS (groT (g 28)) (g 25) (z 3) i)), (2, .int (nI i))] → W p l e rm_X0_worthOfGrouping s m args below meth c H locs 0 0 (q_GI D (wOf (groT (g 28)) (g 25) (z 3)) (gpW cA ad g z) A below args s) (F0 m 4 ls []) := by
    intro fu
    induction fu with
    | zero =>
      intro i hfu hi hbd H locs ls hP hD hS hl
      exfalso; omega
    | succ fu ih4 =>
      intro i hfu hi hbd H locs ls hP hD hS hl
      have zqL16 : ∀ (fu : Nat), ∀ (j : Nat), (z 3 + 1 ≤ j + fu) → (j ≤ (z 3)) → (i < j) → (i < (z 3)) → (∀ i2 j2, (i2 < i ∨ (i2 = i ∧ j2 < j)) → j2 < (z 3) → ¬ badP (groT (g 28)) (g 25) i2 j2) → ∀ (H : Heap) (locs : List Loc) (ls : Array Slot), va_P D vwCl (gpW cA ad g z) H → va_D A (gpW cA ad g z) → va_S A s.heap H locs → lv_has ls 5 [(0, .ref (ad 73)), (1, .int (ouS (groT (g 28)) (g 25) (z 3) i + inS (groT (g 28)) (g 25) i j)), (2, .int (nI i)), (3, .int (nI j))] → W p l e rm_X0_worthOfGrouping s m args below meth c H locs 0 0 (q_GI D (wOf (groT (g 28)) (g 25) (z 3)) (gpW cA ad g z) A below args s) (F0 m 16 ls []) := by
        intro fu
        induction fu with
        | zero =>
          intro j hfu hj hij hi9 hb2 H locs ls hP hD hS hl
          exfalso; omega
        | succ fu ih16 =>
          intro j hfu hj hij hi9 hb2 H locs ls hP hD hS hl
          have zqJ48 : (j < (z 3)) → ∀ (H : Heap) (locs : List Loc) (ls : Array Slot), va_P D vwCl (gpW cA ad g z) H → va_D A (gpW cA ad g z) → va_S A s.heap H locs → lv_has ls 5 [(0, .ref (ad 73)), (1, .int (ouS (groT (g 28)) (g 25) (z 3) i + inS (groT (g 28)) (g 25) i j)), (2, .int (nI i)), (3, .int (nI j))] → W p l e rm_X0_worthOfGrouping s m args below meth c H locs 0 0 (q_GI D (wOf (groT (g 28)) (g 25) (z 3)) (gpW cA ad g z) A below args s) (F0 m 48 ls [.int (q_b ((groT (g 28)) i j))]) := by
            intro  hj9 H locs ls hP hD hS hl
            have zqJ69 : (¬ badP (groT (g 28)) (g 25) i j) → ∀ (H : Heap) (locs : List Loc) (ls : Array Slot), va_P D vwCl (gpW cA ad g z) H → va_D A (gpW cA ad g z) → va_S A s.heap H locs → lv_has ls 5 [(0, .ref (ad 73)), (1, .int (ouS (groT (g 28)) (g 25) (z 3) i + inS (groT (g 28)) (g 25) i j)), (2, .int (nI i)), (3, .int (nI j)), (4, .int (q_b ((groT (g 28)) i j)))] → W p l e rm_X0_worthOfGrouping s m args below meth c H locs 0 0 (q_GI D (wOf (groT (g 28)) (g 25) (z 3)) (gpW cA ad g z) A below args s) (F0 m 69 ls []) := by
              intro  hn9 H locs ls hP hD hS hl
              have zqJ85 : ∀ (H : Heap) (locs : List Loc) (ls : Array Slot), va_P D vwCl (gpW cA ad g z) H → va_D A (gpW cA ad g z) → va_S A s.heap H locs → lv_has ls 5 [(0, .ref (ad 73)), (2, .int (nI i)), (3, .int (nI j)), (4, .int (q_b ((groT (g 28)) i j)))] → W p l e rm_X0_worthOfGrouping s m args below meth c H locs 0 0 (q_GI D (wOf (groT (g 28)) (g 25) (z 3)) (gpW cA ad g z) A below args s) (F0 m 85 ls [.int (bif (groT (g 28)) i j then (g 25) (i * 6 + j) else nI 0), .int (ouS (groT (g 28)) (g 25) (z 3) i + inS (groT (g 28)) (g 25) i j)]) := by
                intro   H locs ls hP hD hS hl
                refine lv_iadd hx hb dX0_worthOfGrouping_85 ?_
                refine q_top (y := ouS (groT (g 28)) (g 25) (z 3) i + inS (groT (g 28)) (g 25) i (j + 1)) (by cases h9 : (groT (g 28)) i j; exact inS_f _ h9; exact inS_t _ hij h9) ?_
                refine lv_istore_n (lv' := [(1, .int (ouS (groT (g 28)) (g 25) (z 3) i + inS (groT (g 28)) (g 25) i (j + 1))), (0, .ref (ad 73)), (2, .int (nI i)), (3, .int (nI j)), (4, .int (q_b ((groT (g 28)) i j)))]) hx hb dX0_worthOfGrouping_86 rfl hl (by decide) rfl (fun ls hl => ?_)
                refine lv_iinc (v := nI (j + 1)) (lv' := [(3, .int (nI (j + 1))), (1, .int (ouS (groT (g 28)) (g 25) (z 3) i + inS (groT (g 28)) (g 25) i (j + 1))), (0, .ref (ad 73)), (2, .int (nI i)), (4, .int (q_b ((groT (g 28)) i j)))]) hx hb dX0_worthOfGrouping_87 hl (k := 3) rfl (q_inc1 _) (by decide) rfl (fun ls hl => ?_)
                refine lv_goto (tgt := 16) hx hb dX0_worthOfGrouping_90 (by decide) ?_
                exact ih16 (j + 1) (by omega) (by omega) (by omega) (by omega) (fun i2 j2 h1 h2 => by rcases Nat.lt_or_ge j2 j with q | q; exact hb2 i2 j2 (by omega) h2; by_cases e1 : i2 = i ∧ j2 = j; rw [e1.1, e1.2]; exact hn9; exact hb2 i2 j2 (by omega) h2) _ _ _ hP hD hS (lv_sub hl [2, 1, 3, 0] rfl)
              refine lv_iload_n hx hb dX0_worthOfGrouping_69 rfl (lv_at hl 1 rfl) ?_
              refine lv_iload hx hb dX0_worthOfGrouping_70 (lv_at hl 4 rfl) ?_
              refine lv_if_eq (tgt := 84) hx hb dX0_worthOfGrouping_72 (by decide) (fun c_72 => ?_) (fun c_72 => ?_)
              · have c_72 := q_b0e c_72
                refine lv_iconst (v := nI 0) hx hb dX0_worthOfGrouping_84 (by decide +kernel) ?_
                refine q_top (y := (bif (groT (g 28)) i j then (g 25) (i * 6 + j) else nI 0)) (by rw [c_72]; rfl) ?_
                exact zqJ85   _ _ _ hP hD hS (lv_sub hl [0, 2, 3, 4] rfl)
              · have c_72 := q_b0n c_72
                refine lv_aload_n hx hb dX0_worthOfGrouping_75 rfl (lv_at hl 0 rfl) ?_
                refine lv_iload_n hx hb dX0_worthOfGrouping_76 rfl (lv_at hl 2 rfl) ?_
                refine lv_iload_n hx hb dX0_worthOfGrouping_77 rfl (lv_at hl 3 rfl) ?_
                refine q_callIW (As := [.int (nI i), .int (nI j)]) (r := (g 25) (i * 6 + j)) (w1 := gpW cA ad g z) hx hb hml hown hT hK hP hD hS hA (c_X0_pairWorth l D cA ad g z i j (show i < 6 by omega) (show j < 6 by omega)) k_X0_pairWorth kl_X0_50 (q0 := 0) rfl rfl rfl ((gpW_adr _ _ _ _).trans (gpW_adr _ _ _ _).symm) hl rfl rfl (Nat.le_of_ble_eq_true rfl) ⟨⟨rfl, rfl⟩, Nat.le_of_ble_eq_true rfl, Nat.le_of_ble_eq_true rfl⟩ ⟨Nat.zero_le _, Nat.zero_le _⟩ dX0_worthOfGrouping_78 (fun H locs hP hD hS => ?_)
                refine lv_goto (tgt := 85) hx hb dX0_worthOfGrouping_81 (by decide) ?_
                refine q_top (y := (bif (groT (g 28)) i j then (g 25) (i * 6 + j) else nI 0)) (by rw [c_72]; rfl) ?_
                exact zqJ85   _ _ _ hP hD hS (lv_sub hl [0, 2, 3, 4] rfl)
            refine lv_istore (lv' := [(4, .int (q_b ((groT (g 28)) i j))), (0, .ref (ad 73)), (1, .int (ouS (groT (g 28)) (g 25) (z 3) i + inS (groT (g 28)) (g 25) i j)), (2, .int (nI i)), (3, .int (nI j))]) hx hb dX0_worthOfGrouping_48 hl (by decide) rfl (fun ls hl => ?_)
            refine lv_iload hx hb dX0_worthOfGrouping_50 (lv_at hl 0 rfl) ?_
            refine lv_if_eq (tgt := 69) hx hb dX0_worthOfGrouping_52 (by decide) (fun c_52 => ?_) (fun c_52 => ?_)
            · have c_52 := q_b0e c_52
              exact zqJ69  (fun h => by have h2 := h.2.1; rw [c_52] at h2; cases h2) _ _ _ hP hD hS (lv_sub hl [1, 2, 3, 4, 0] rfl)
            · have c_52 := q_b0n c_52
              refine lv_aload_n hx hb dX0_worthOfGrouping_55 rfl (lv_at hl 1 rfl) ?_
              refine lv_iload_n hx hb dX0_worthOfGrouping_56 rfl (lv_at hl 3 rfl) ?_
              refine lv_iload_n hx hb dX0_worthOfGrouping_57 rfl (lv_at hl 4 rfl) ?_
              refine q_callIW (As := [.int (nI i), .int (nI j)]) (r := (g 25) (i * 6 + j)) (w1 := gpW cA ad g z) hx hb hml hown hT hK hP hD hS hA (c_X0_pairWorth l D cA ad g z i j (show i < 6 by omega) (show j < 6 by omega)) k_X0_pairWorth kl_X0_50 (q0 := 0) rfl rfl rfl ((gpW_adr _ _ _ _).trans (gpW_adr _ _ _ _).symm) hl rfl rfl (Nat.le_of_ble_eq_true rfl) ⟨⟨rfl, rfl⟩, Nat.le_of_ble_eq_true rfl, Nat.le_of_ble_eq_true rfl⟩ ⟨Nat.zero_le _, Nat.zero_le _⟩ dX0_worthOfGrouping_58 (fun H locs hP hD hS => ?_)
              refine lv_ldc (v := (-1000000)) hx hb hown (hT.use kk_X0_54 args) dX0_worthOfGrouping_61 ?_
              refine lv_icmp_ne (tgt := 69) hx hb dX0_worthOfGrouping_63 (by decide) (fun c_63 => ?_) (fun c_63 => ?_)
              · exact zqJ69  (fun h => c_63 h.2.2) _ _ _ hP hD hS (lv_sub hl [1, 2, 3, 4, 0] rfl)
              · refine lv_ldc (v := (-1000000)) hx hb hown (hT.use kk_X0_54 args) dX0_worthOfGrouping_66 ?_
                exact q_iret hx hb hr hlk (by exact wOf_bad (i := i) (j := j) (by omega) (by omega) ⟨hij, c_52, c_63⟩) hP hS dX0_worthOfGrouping_68
          refine lv_iload_n hx hb dX0_worthOfGrouping_16 rfl (lv_at hl 3 rfl) ?_
          refine lv_aload_n hx hb dX0_worthOfGrouping_17 rfl (lv_at hl 0 rfl) ?_
          refine q_get hx hb hT hown hK hP kw_X0 0 rfl rfl 5 (by decide) kf_X0_32 rfl (v := .int (nI (z 3))) rfl dX0_worthOfGrouping_18 ?_
          refine lv_icmp_ge (tgt := 93) hx hb dX0_worthOfGrouping_21 (by decide) (fun c_21 => ?_) (fun c_21 => ?_)
          · have c_21 := nI_le1 (a := z 3) (b := j) (by omega) (by omega) c_21
            refine lv_iinc (v := nI (i + 1)) (lv' := [(2, .int (nI (i + 1))), (0, .ref (ad 73)), (1, .int (ouS (groT (g 28)) (g 25) (z 3) i + inS (groT (g 28)) (g 25) i j)), (3, .int (nI j))]) hx hb dX0_worthOfGrouping_93 hl (k := 2) rfl (q_inc1 _) (by decide) rfl (fun ls hl => ?_)
            refine lv_goto (tgt := 4) hx hb dX0_worthOfGrouping_96 (by decide) ?_
            have e9_0 : (ouS (groT (g 28)) (g 25) (z 3) i + inS (groT (g 28)) (g 25) i j) = (ouS (groT (g 28)) (g 25) (z 3) (i + 1)) := by first | with_reducible rfl | (rw [show j = z 3 by omega]; rfl)
            have hl9 : lv_has ls 5 [(0, .ref (ad 73)), (1, .int (ouS (groT (g 28)) (g 25) (z 3) (i + 1))), (2, .int (nI (i + 1)))] := lv_cast (l := [(0, .ref (ad 73)), (1, .int (ouS (groT (g 28)) (g 25) (z 3) i + inS (groT (g 28)) (g 25) i j)), (2, .int (nI (i + 1)))]) (lv_sub hl [1, 2, 0] rfl) (congrArg (fun v9 : Int32 => ([(0, .ref (ad 73)), (1, .int v9), (2, .int (nI (i + 1)))] : List (Nat × Value))) e9_0)
            exact ih4 (i + 1) (by omega) (by omega) (fun i2 j2 h1 h2 => hb2 i2 j2 (by omega) h2) _ _ _ hP hD hS hl9
          · have c_21 := nI_le0 (a := z 3) (b := j) (by omega) (by omega) c_21
            refine lv_aload_n hx hb dX0_worthOfGrouping_24 rfl (lv_at hl 0 rfl) ?_
            refine q_get hx hb hT hown hK hP kw_X0 0 rfl rfl 4 (by decide) kf_X0_29 rfl (v := .ref (ad 28)) rfl dX0_worthOfGrouping_25 ?_
            refine lv_iload_n hx hb dX0_worthOfGrouping_28 rfl (lv_at hl 2 rfl) ?_
            refine q_callI (As := [.int (nI i)]) (r := g 28 i) (wc := rowW cA (ad 28) (ad 58) 6 (g 28)) (w1 := rowW cA (ad 28) (ad 58) 6 (g 28)) (ws1 := gpW cA ad g z) hx hb hml hown hT hK hP hD hS hA (c_X3_atN l D cA (ad 28) (ad 58) 6 (g 28) i (by omega) (by omega)) k_X3_at kl_X0_40 (q0 := 0) rfl rfl rfl [9, 10] rfl rfl rfl rfl hl rfl rfl (Nat.le_of_ble_eq_true rfl) ⟨⟨rfl, rfl⟩, Nat.le_of_ble_eq_true rfl, Nat.le_of_ble_eq_true rfl⟩ ⟨Nat.zero_le _, Nat.zero_le _⟩ dX0_worthOfGrouping_29 (fun H locs hP hD hS => ?_)
            refine lv_aload_n hx hb dX0_worthOfGrouping_32 rfl (lv_at hl 0 rfl) ?_
            refine q_get hx hb hT hown hK hP kw_X0 0 rfl rfl 4 (by decide) kf_X0_29 rfl (v := .ref (ad 28)) rfl dX0_worthOfGrouping_33 ?_
            refine lv_iload_n hx hb dX0_worthOfGrouping_36 rfl (lv_at hl 3 rfl) ?_
            refine q_callI (As := [.int (nI j)]) (r := g 28 j) (wc := rowW cA (ad 28) (ad 58) 6 (g 28)) (w1 := rowW cA (ad 28) (ad 58) 6 (g 28)) (ws1 := gpW cA ad g z) hx hb hml hown hT hK hP hD hS hA (c_X3_atN l D cA (ad 28) (ad 58) 6 (g 28) j (by omega) (by omega)) k_X3_at kl_X0_40 (q0 := 0) rfl rfl rfl [9, 10] rfl rfl rfl rfl hl rfl rfl (Nat.le_of_ble_eq_true rfl) ⟨⟨rfl, rfl⟩, Nat.le_of_ble_eq_true rfl, Nat.le_of_ble_eq_true rfl⟩ ⟨Nat.zero_le _, Nat.zero_le _⟩ dX0_worthOfGrouping_37 (fun H locs hP hD hS => ?_)
            refine lv_icmp_ne (tgt := 47) hx hb dX0_worthOfGrouping_40 (by decide) (fun c_40 => ?_) (fun c_40 => ?_)
            · refine lv_iconst (v := nI 0) hx hb dX0_worthOfGrouping_47 (by decide +kernel) ?_
              refine q_top (y := q_b ((groT (g 28)) i j)) (by first | exact q_bt (decide_eq_true c_40) | exact q_bf (decide_eq_false (fun h => h c_40)) | exact q_bf (decide_eq_false c_40)) ?_
              exact zqJ48  (by omega) _ _ _ hP hD hS (lv_sub hl [0, 1, 2, 3] rfl)
            · refine lv_iconst (v := nI 1) hx hb dX0_worthOfGrouping_43 (by decide +kernel) ?_
              refine lv_goto (tgt := 48) hx hb dX0_worthOfGrouping_44 (by decide) ?_
              refine q_top (y := q_b ((groT (g 28)) i j)) (by first | exact q_bt (decide_eq_true c_40) | exact q_bf (decide_eq_false (fun h => h c_40)) | exact q_bf (decide_eq_false c_40)) ?_
              exact zqJ48  (by omega) _ _ _ hP hD hS (lv_sub hl [0, 1, 2, 3] rfl)
      refine lv_iload_n hx hb dX0_worthOfGrouping_4 rfl (lv_at hl 2 rfl) ?_
      refine lv_aload_n hx hb dX0_worthOfGrouping_5 rfl (lv_at hl 0 rfl) ?_
      refine q_get hx hb hT hown hK hP kw_X0 0 rfl rfl 5 (by decide) kf_X0_32 rfl (v := .int (nI (z 3))) rfl dX0_worthOfGrouping_6 ?_
      refine lv_icmp_ge (tgt := 99) hx hb dX0_worthOfGrouping_9 (by decide) (fun c_9 => ?_) (fun c_9 => ?_)
      · have c_9 := nI_le1 (a := z 3) (b := i) (by omega) (by omega) c_9
        refine lv_iload_n hx hb dX0_worthOfGrouping_99 rfl (lv_at hl 1 rfl) ?_
        exact q_iret hx hb hr hlk (by rw [show i = z 3 by omega]; exact wOf_ok (fun i2 j2 h1 h2 => hbd i2 j2 (by omega) h2)) hP hS dX0_worthOfGrouping_100
      · have c_9 := nI_le0 (a := z 3) (b := i) (by omega) (by omega) c_9
        refine lv_iload_n hx hb dX0_worthOfGrouping_12 rfl (lv_at hl 2 rfl) ?_
        refine lv_iconst (v := nI 1) hx hb dX0_worthOfGrouping_13 (by decide +kernel) ?_
        refine lv_iadd hx hb dX0_worthOfGrouping_14 ?_
        refine q_top (y := nI (i + 1)) (nI_add _ _) ?_
        refine lv_istore_n (lv' := [(3, .int (nI (i + 1))), (0, .ref (ad 73)), (1, .int (ouS (groT (g 28)) (g 25) (z 3) i)), (2, .int (nI i))]) hx hb dX0_worthOfGrouping_15 rfl hl (by decide) rfl (fun ls hl => ?_)
        have e9_0 : (ouS (groT (g 28)) (g 25) (z 3) i) = (ouS (groT (g 28)) (g 25) (z 3) i + inS (groT (g 28)) (g 25) i (i + 1)) := by first | with_reducible rfl | (rw [inS_0 (i + 1) (by omega), add_nI0])
        have hl9 : lv_has ls 5 [(0, .ref (ad 73)), (1, .int (ouS (groT (g 28)) (g 25) (z 3) i + inS (groT (g 28)) (g 25) i (i + 1))), (2, .int (nI i)), (3, .int (nI (i + 1)))] := lv_cast (l := [(0, .ref (ad 73)), (1, .int (ouS (groT (g 28)) (g 25) (z 3) i)), (2, .int (nI i)), (3, .int (nI (i + 1)))]) (lv_sub hl [1, 2, 3, 0] rfl) (congrArg (fun v9 : Int32 => ([(0, .ref (ad 73)), (1, .int v9), (2, .int (nI i)), (3, .int (nI (i + 1)))] : List (Nat × Value))) e9_0)
        exact zqL16 (z 3 + 1) (i + 1) (by omega) (by omega) (by omega) (by omega) (fun i2 j2 h1 h2 h3 => by rcases h1 with h1 | ⟨h1, h4⟩; exact hbd i2 j2 h1 h2 h3; exact absurd h3.1 (by omega)) _ _ _ hP hD hS hl9
  refine lv_iconst (v := nI 0) hx hb dX0_worthOfGrouping_0 (by decide +kernel) ?_
  refine lv_istore_n (lv' := [(1, .int (nI 0)), (0, .ref (ad 73))]) hx hb dX0_worthOfGrouping_1 rfl hl (by decide) rfl (fun ls hl => ?_)
  refine lv_iconst (v := nI 0) hx hb dX0_worthOfGrouping_2 (by decide +kernel) ?_
  refine lv_istore_n (lv' := [(2, .int (nI 0)), (1, .int (nI 0)), (0, .ref (ad 73))]) hx hb dX0_worthOfGrouping_3 rfl hl (by decide) rfl (fun ls hl => ?_)
  have e9_0 : (nI 0) = (ouS (groT (g 28)) (g 25) (z 3) 0) := by first | with_reducible rfl | (rfl)
  have hl9 : lv_has ls 5 [(0, .ref (ad 73)), (1, .int (ouS (groT (g 28)) (g 25) (z 3) 0)), (2, .int (nI 0))] := lv_cast (l := [(0, .ref (ad 73)), (1, .int (nI 0)), (2, .int (nI 0))]) (lv_sub hl [2, 1, 0] rfl) (congrArg (fun v9 : Int32 => ([(0, .ref (ad 73)), (1, .int v9), (2, .int (nI 0))] : List (Nat × Value))) e9_0)
  exact zqL4 (z 3 + 1) 0 (by omega) (by omega) (fun _ _ h => absurd h (Nat.not_lt_zero _)) _ _ _ hP hD hS hl9
end
section
abbrev rm_X0_bestOfSet : Room := { frames := 1, cells := 0, slots := 0, locals := 21 }
set_option maxRecDepth 100000 in
set_option maxHeartbeats 4000000 in
theorem c_X0_bestOfSet (l : Launch) (D : va_G) (cA : ClassId) (ad : Nat → Nat) (g : Nat → Nat → Int32) (z : Nat → Nat) (x : Nat) (hx9 : x < 64) : q_CI l yX0_bestOfSet [Cond.code yX0_bestOfSet cX0_bestOfSet 6 (some .int)] rm_X0_bestOfSet D cA [.ref (ad 73), .int (nI x)] (gpW cA ad g z) (bos (g 26) (g 27) x) (gpW cA ad g z) := by
  refine q_startI RX0 (by decide +kernel) rfl (Nat.le_of_ble_eq_true rfl) ?_
  intro p e s m below meth c A args H locs ls hx hb hr hml hown hT hlk hP hK hD hA hS hl
  have hl : lv_has ls 6 [(0, .ref (ad 73)), (1, .int (nI x))] := hl
  have zqL11 : ∀ (fu : Nat), ∀ (k : Nat), (x + 2 ≤ k + fu) → (k ≤ x + 1) → ∀ (H : Heap) (locs : List Loc) (ls : Array Slot), va_P D vwCl (gpW cA ad g z) H → va_D A (gpW cA ad g z) → va_S A s.heap H locs → lv_has ls 6 [(0, .ref (ad 73)), (1, .int (nI x)), (2, .int (nI (lowB x))), (3, .int (bosN (g 26) (g 27) x k)), (4, .int (nI k))] → W p l e rm_X0_bestOfSet s m args below meth c H locs 0 0 (q_GI D (bos (g 26) (g 27) x) (gpW cA ad g z) A below args s) (F0 m 11 ls []) := by
    intro fu
    induction fu with
    | zero =>
      intro k hfu hk H locs ls hP hD hS hl
      exfalso; omega
    | succ fu ih11 =>
      intro k hfu hk H locs ls hP hD hS hl
      have zqJ38 : (k ≤ x) → ∀ (H : Heap) (locs : List Loc) (ls : Array Slot), va_P D vwCl (gpW cA ad g z) H → va_D A (gpW cA ad g z) → va_S A s.heap H locs → lv_has ls 6 [(0, .ref (ad 73)), (1, .int (nI x)), (2, .int (nI (lowB x))), (3, .int (bosN (g 26) (g 27) x k)), (4, .int (nI k))] → W p l e rm_X0_bestOfSet s m args below meth c H locs 0 0 (q_GI D (bos (g 26) (g 27) x) (gpW cA ad g z) A below args s) (F0 m 38 ls [.int (q_b (prt x k))]) := by
        intro  hk9 H locs ls hP hD hS hl
        have zqJ85 : ∀ (H : Heap) (locs : List Loc) (ls : Array Slot), va_P D vwCl (gpW cA ad g z) H → va_D A (gpW cA ad g z) → va_S A s.heap H locs → lv_has ls 6 [(0, .ref (ad 73)), (1, .int (nI x)), (2, .int (nI (lowB x))), (3, .int (bosN (g 26) (g 27) x (k + 1))), (4, .int (nI k))] → W p l e rm_X0_bestOfSet s m args below meth c H locs 0 0 (q_GI D (bos (g 26) (g 27) x) (gpW cA ad g z) A below args s) (F0 m 85 ls []) := by
          intro   H locs ls hP hD hS hl
          refine lv_iinc (v := nI (k + 1)) (lv' := [(4, .int (nI (k + 1))), (0, .ref (ad 73)), (1, .int (nI x)), (2, .int (nI (lowB x))), (3, .int (bosN (g 26) (g 27) x (k + 1)))]) hx hb dX0_bestOfSet_85 hl (k := 4) rfl (q_inc1 _) (by decide) rfl (fun ls hl => ?_)
          refine lv_goto (tgt := 11) hx hb dX0_bestOfSet_88 (by decide) ?_
          exact ih11 (k + 1) (by omega) (by omega) _ _ _ hP hD hS (lv_sub hl [1, 2, 3, 4, 0] rfl)
        refine lv_istore (lv' := [(5, .int (q_b (prt x k))), (0, .ref (ad 73)), (1, .int (nI x)), (2, .int (nI (lowB x))), (3, .int (bosN (g 26) (g 27) x k)), (4, .int (nI k))]) hx hb dX0_bestOfSet_38 hl (by decide) rfl (fun ls hl => ?_)
        refine lv_iload hx hb dX0_bestOfSet_40 (lv_at hl 0 rfl) ?_
        refine lv_if_eq (tgt := 85) hx hb dX0_bestOfSet_42 (by decide) (fun c_42 => ?_) (fun c_42 => ?_)
        · have c_42 := q_b0e c_42
          have e9_0 : (bosN (g 26) (g 27) x k) = (bosN (g 26) (g 27) x (k + 1)) := by first | with_reducible rfl | (first | rw [bosN_f c_42] | rw [bosN_f2 c_56] | exact bosN_t c_42 c_56)
          have hl9 : lv_has ls 6 [(0, .ref (ad 73)), (1, .int (nI x)), (2, .int (nI (lowB x))), (3, .int (bosN (g 26) (g 27) x (k + 1))), (4, .int (nI k))] := lv_cast (l := [(0, .ref (ad 73)), (1, .int (nI x)), (2, .int (nI (lowB x))), (3, .int (bosN (g 26) (g 27) x k)), (4, .int (nI k))]) (lv_sub hl [1, 2, 3, 4, 5] rfl) (congrArg (fun v9 : Int32 => ([(0, .ref (ad 73)), (1, .int (nI x)), (2, .int (nI (lowB x))), (3, .int v9), (4, .int (nI k))] : List (Nat × Value))) e9_0)
          exact zqJ85   _ _ _ hP hD hS hl9
        · have c_42 := q_b0n c_42
          refine lv_aload_n hx hb dX0_bestOfSet_45 rfl (lv_at hl 1 rfl) ?_
          refine q_get hx hb hT hown hK hP kw_X0 0 rfl rfl 2 (by decide) kf_X0_23 rfl (v := .ref (ad 26)) rfl dX0_bestOfSet_46 ?_
          refine lv_iload hx hb dX0_bestOfSet_49 (lv_at hl 5 rfl) ?_
          refine q_callI (As := [.int (nI k)]) (r := g 26 k) (wc := rowW cA (ad 26) (ad 56) 64 (g 26)) (w1 := rowW cA (ad 26) (ad 56) 64 (g 26)) (ws1 := gpW cA ad g z) hx hb hml hown hT hK hP hD hS hA (c_X3_atN l D cA (ad 26) (ad 56) 64 (g 26) k (by omega) (by omega)) k_X3_at kl_X0_40 (q0 := 0) rfl rfl rfl [5, 6] rfl rfl rfl rfl hl rfl rfl (Nat.le_of_ble_eq_true rfl) ⟨⟨rfl, rfl⟩, Nat.le_of_ble_eq_true rfl, Nat.le_of_ble_eq_true rfl⟩ ⟨Nat.zero_le _, Nat.zero_le _⟩ dX0_bestOfSet_51 (fun H locs hP hD hS => ?_)
          refine lv_ldc (v := (-1000000)) hx hb hown (hT.use kk_X0_54 args) dX0_bestOfSet_54 ?_
          refine lv_icmp_eq (tgt := 85) hx hb dX0_bestOfSet_56 (by decide) (fun c_56 => ?_) (fun c_56 => ?_)
          · have e9_0 : (bosN (g 26) (g 27) x k) = (bosN (g 26) (g 27) x (k + 1)) := by first | with_reducible rfl | (first | rw [bosN_f c_42] | rw [bosN_f2 c_56] | exact bosN_t c_42 c_56)
            have hl9 : lv_has ls 6 [(0, .ref (ad 73)), (1, .int (nI x)), (2, .int (nI (lowB x))), (3, .int (bosN (g 26) (g 27) x (k + 1))), (4, .int (nI k))] := lv_cast (l := [(0, .ref (ad 73)), (1, .int (nI x)), (2, .int (nI (lowB x))), (3, .int (bosN (g 26) (g 27) x k)), (4, .int (nI k))]) (lv_sub hl [1, 2, 3, 4, 5] rfl) (congrArg (fun v9 : Int32 => ([(0, .ref (ad 73)), (1, .int (nI x)), (2, .int (nI (lowB x))), (3, .int v9), (4, .int (nI k))] : List (Nat × Value))) e9_0)
            exact zqJ85   _ _ _ hP hD hS hl9
          · refine lv_iload_n hx hb dX0_bestOfSet_59 rfl (lv_at hl 4 rfl) ?_
            refine lv_aload_n hx hb dX0_bestOfSet_60 rfl (lv_at hl 1 rfl) ?_
            refine q_get hx hb hT hown hK hP kw_X0 0 rfl rfl 2 (by decide) kf_X0_23 rfl (v := .ref (ad 26)) rfl dX0_bestOfSet_61 ?_
            refine lv_iload hx hb dX0_bestOfSet_64 (lv_at hl 5 rfl) ?_
            refine q_callI (As := [.int (nI k)]) (r := g 26 k) (wc := rowW cA (ad 26) (ad 56) 64 (g 26)) (w1 := rowW cA (ad 26) (ad 56) 64 (g 26)) (ws1 := gpW cA ad g z) hx hb hml hown hT hK hP hD hS hA (c_X3_atN l D cA (ad 26) (ad 56) 64 (g 26) k (by omega) (by omega)) k_X3_at kl_X0_40 (q0 := 0) rfl rfl rfl [5, 6] rfl rfl rfl rfl hl rfl rfl (Nat.le_of_ble_eq_true rfl) ⟨⟨rfl, rfl⟩, Nat.le_of_ble_eq_true rfl, Nat.le_of_ble_eq_true rfl⟩ ⟨Nat.zero_le _, Nat.zero_le _⟩ dX0_bestOfSet_66 (fun H locs hP hD hS => ?_)
            refine lv_aload_n hx hb dX0_bestOfSet_69 rfl (lv_at hl 1 rfl) ?_
            refine q_get hx hb hT hown hK hP kw_X0 0 rfl rfl 3 (by decide) kf_X0_26 rfl (v := .ref (ad 27)) rfl dX0_bestOfSet_70 ?_
            refine lv_iload_n hx hb dX0_bestOfSet_73 rfl (lv_at hl 2 rfl) ?_
            refine lv_iload hx hb dX0_bestOfSet_74 (lv_at hl 5 rfl) ?_
            refine lv_ixor hx hb dX0_bestOfSet_76 ?_
            refine q_top (y := nI (x ^^^ k)) (nx_xor' _ _) ?_
            refine q_callI (As := [.int (nI (x ^^^ k))]) (r := g 27 (x ^^^ k)) (wc := rowW cA (ad 27) (ad 57) 64 (g 27)) (w1 := rowW cA (ad 27) (ad 57) 64 (g 27)) (ws1 := gpW cA ad g z) hx hb hml hown hT hK hP hD hS hA (c_X3_atN l D cA (ad 27) (ad 57) 64 (g 27) (x ^^^ k) (Nat.xor_lt_two_pow (n := 6) (by omega) (by omega)) (by omega)) k_X3_at kl_X0_40 (q0 := 0) rfl rfl rfl [7, 8] rfl rfl rfl rfl hl rfl rfl (Nat.le_of_ble_eq_true rfl) ⟨⟨rfl, rfl⟩, Nat.le_of_ble_eq_true rfl, Nat.le_of_ble_eq_true rfl⟩ ⟨Nat.zero_le _, Nat.zero_le _⟩ dX0_bestOfSet_77 (fun H locs hP hD hS => ?_)
            refine lv_iadd hx hb dX0_bestOfSet_80 ?_
            refine q_max hx hb hml hown hT hl kl_X0_55 (Nat.le_of_ble_eq_true rfl) (Nat.le_of_ble_eq_true rfl) ⟨Nat.zero_le _, Nat.zero_le _⟩ dX0_bestOfSet_81 ?_
            refine lv_istore_n (lv' := [(3, .int (if (bosN (g 26) (g 27) x k) < ((g 26 k) + (g 27 (x ^^^ k))) then ((g 26 k) + (g 27 (x ^^^ k))) else (bosN (g 26) (g 27) x k))), (5, .int (q_b (prt x k))), (0, .ref (ad 73)), (1, .int (nI x)), (2, .int (nI (lowB x))), (4, .int (nI k))]) hx hb dX0_bestOfSet_84 rfl hl (by decide) rfl (fun ls hl => ?_)
            have e9_0 : (if (bosN (g 26) (g 27) x k) < ((g 26 k) + (g 27 (x ^^^ k))) then ((g 26 k) + (g 27 (x ^^^ k))) else (bosN (g 26) (g 27) x k)) = (bosN (g 26) (g 27) x (k + 1)) := by first | with_reducible rfl | (first | rw [bosN_f c_42] | rw [bosN_f2 c_56] | exact bosN_t c_42 c_56)
            have hl9 : lv_has ls 6 [(0, .ref (ad 73)), (1, .int (nI x)), (2, .int (nI (lowB x))), (3, .int (bosN (g 26) (g 27) x (k + 1))), (4, .int (nI k))] := lv_cast (l := [(0, .ref (ad 73)), (1, .int (nI x)), (2, .int (nI (lowB x))), (3, .int (if (bosN (g 26) (g 27) x k) < ((g 26 k) + (g 27 (x ^^^ k))) then ((g 26 k) + (g 27 (x ^^^ k))) else (bosN (g 26) (g 27) x k))), (4, .int (nI k))]) (lv_sub hl [2, 3, 4, 0, 5] rfl) (congrArg (fun v9 : Int32 => ([(0, .ref (ad 73)), (1, .int (nI x)), (2, .int (nI (lowB x))), (3, .int v9), (4, .int (nI k))] : List (Nat × Value))) e9_0)
            exact zqJ85   _ _ _ hP hD hS hl9
      refine lv_iload hx hb dX0_bestOfSet_11 (lv_at hl 4 rfl) ?_
      refine lv_iload_n hx hb dX0_bestOfSet_13 rfl (lv_at hl 1 rfl) ?_
      refine lv_icmp_gt (tgt := 91) hx hb dX0_bestOfSet_14 (by decide) (fun c_14 => ?_) (fun c_14 => ?_)
      · have c_14 := nI_lt1 (a := x) (b := k) (by omega) (by omega) c_14
        refine lv_iload_n hx hb dX0_bestOfSet_91 rfl (lv_at hl 3 rfl) ?_
        exact q_iret hx hb hr hlk (by rw [show k = x + 1 by omega]; rfl) hP hS dX0_bestOfSet_92
      · have c_14 := nI_lt0 (a := x) (b := k) (by omega) (by omega) c_14
        refine lv_iload hx hb dX0_bestOfSet_17 (lv_at hl 4 rfl) ?_
        refine lv_iload_n hx hb dX0_bestOfSet_19 rfl (lv_at hl 1 rfl) ?_
        refine lv_iand hx hb dX0_bestOfSet_20 ?_
        refine q_top (y := nI (k &&& x)) (nx_and' _ _) ?_
        refine lv_iload hx hb dX0_bestOfSet_21 (lv_at hl 4 rfl) ?_
        refine lv_icmp_ne (tgt := 37) hx hb dX0_bestOfSet_23 (by decide) (fun c_23 => ?_) (fun c_23 => ?_)
        · have c_23 := mt (congrArg nI) c_23
          refine lv_iconst (v := nI 0) hx hb dX0_bestOfSet_37 (by decide +kernel) ?_
          refine q_top (y := q_b (prt x k)) (by first | exact q_bt (decide_eq_true ⟨c_23, c_30⟩) | exact q_bf (decide_eq_false (fun h => h.2 c_30)) | exact q_bf (decide_eq_false (fun h => c_23 h.1))) ?_
          exact zqJ38  (by omega) _ _ _ hP hD hS (lv_sub hl [0, 1, 2, 3, 4] rfl)
        · have c_23 := nI_eq1 (Nat.lt_of_le_of_lt Nat.and_le_left (by omega)) (by omega) c_23
          refine lv_iload hx hb dX0_bestOfSet_26 (lv_at hl 4 rfl) ?_
          refine lv_iload_n hx hb dX0_bestOfSet_28 rfl (lv_at hl 2 rfl) ?_
          refine lv_iand hx hb dX0_bestOfSet_29 ?_
          refine q_top (y := nI (k &&& lowB x)) (nx_and' _ _) ?_
          refine lv_if_eq (tgt := 37) hx hb dX0_bestOfSet_30 (by decide) (fun c_30 => ?_) (fun c_30 => ?_)
          · have c_30 := nI_eq1 (b := 0) (Nat.lt_of_le_of_lt Nat.and_le_left (by omega)) (by omega) c_30
            refine lv_iconst (v := nI 0) hx hb dX0_bestOfSet_37 (by decide +kernel) ?_
            refine q_top (y := q_b (prt x k)) (by first | exact q_bt (decide_eq_true ⟨c_23, c_30⟩) | exact q_bf (decide_eq_false (fun h => h.2 c_30)) | exact q_bf (decide_eq_false (fun h => c_23 h.1))) ?_
            exact zqJ38  (by omega) _ _ _ hP hD hS (lv_sub hl [0, 1, 2, 3, 4] rfl)
          · have c_30 : ¬ k &&& lowB x = 0 := fun h => c_30 (by rw [h]; rfl)
            refine lv_iconst (v := nI 1) hx hb dX0_bestOfSet_33 (by decide +kernel) ?_
            refine lv_goto (tgt := 38) hx hb dX0_bestOfSet_34 (by decide) ?_
            refine q_top (y := q_b (prt x k)) (by first | exact q_bt (decide_eq_true ⟨c_23, c_30⟩) | exact q_bf (decide_eq_false (fun h => h.2 c_30)) | exact q_bf (decide_eq_false (fun h => c_23 h.1))) ?_
            exact zqJ38  (by omega) _ _ _ hP hD hS (lv_sub hl [0, 1, 2, 3, 4] rfl)
  refine lv_iload_n hx hb dX0_bestOfSet_0 rfl (lv_at hl 1 rfl) ?_
  refine lv_iload_n hx hb dX0_bestOfSet_1 rfl (lv_at hl 1 rfl) ?_
  refine lv_ineg hx hb dX0_bestOfSet_2 ?_
  refine lv_iand hx hb dX0_bestOfSet_3 ?_
  refine q_top (y := nI (lowB x)) (lowB_neg x hx9) ?_
  refine lv_istore_n (lv' := [(2, .int (nI (lowB x))), (0, .ref (ad 73)), (1, .int (nI x))]) hx hb dX0_bestOfSet_4 rfl hl (by decide) rfl (fun ls hl => ?_)
  refine lv_ldc (v := (-1000000)) hx hb hown (hT.use kk_X0_54 args) dX0_bestOfSet_5 ?_
  refine lv_istore_n (lv' := [(3, .int (-1000000)), (2, .int (nI (lowB x))), (0, .ref (ad 73)), (1, .int (nI x))]) hx hb dX0_bestOfSet_7 rfl hl (by decide) rfl (fun ls hl => ?_)
  refine lv_iload_n hx hb dX0_bestOfSet_8 rfl (lv_at hl 1 rfl) ?_
  refine lv_istore (lv' := [(4, .int (nI (lowB x))), (3, .int (-1000000)), (2, .int (nI (lowB x))), (0, .ref (ad 73)), (1, .int (nI x))]) hx hb dX0_bestOfSet_9 hl (by decide) rfl (fun ls hl => ?_)
  have e9_0 : (-1000000) = (bosN (g 26) (g 27) x (lowB x)) := by first | with_reducible rfl | (rw [bosN_0 hx9 _ (Nat.le_refl _)])
  have hl9 : lv_has ls 6 [(0, .ref (ad 73)), (1, .int (nI x)), (2, .int (nI (lowB x))), (3, .int (bosN (g 26) (g 27) x (lowB x))), (4, .int (nI (lowB x)))] := lv_cast (l := [(0, .ref (ad 73)), (1, .int (nI x)), (2, .int (nI (lowB x))), (3, .int (-1000000)), (4, .int (nI (lowB x)))]) (lv_sub hl [3, 4, 2, 1, 0] rfl) (congrArg (fun v9 : Int32 => ([(0, .ref (ad 73)), (1, .int (nI x)), (2, .int (nI (lowB x))), (3, .int v9), (4, .int (nI (lowB x)))] : List (Nat × Value))) e9_0)
  exact zqL11 (x + 2) (lowB x) (by omega) (by have := (lowB_lt x hx9).2; omega) _ _ _ hP hD hS hl9
abbrev rm_X0_bestByParts : Room := { frames := 3, cells := 0, slots := 0, locals := 68 }
set_option maxRecDepth 100000 in
set_option maxHeartbeats 4000000 in
theorem c_X0_bestByParts (l : Launch) (D : va_G) (cA : ClassId) (ad : Nat → Nat) (g : Nat → Nat → Int32) (z : Nat → Nat)  (hz : (z 3) ≤ 6) : q_CI l yX0_bestByParts [Cond.code yX0_bestByParts cX0_bestByParts 3 (some .int)] rm_X0_bestByParts D cA [.ref (ad 73)] (gpW cA ad g z) (bpB (g 25) (g 26) (g 27) (z 3) (2 ^ (z 3) - 1) (2 ^ (z 3) - 1)) (gpW cA ad (gs (gs g 26 (bpG (g 25) (g 26) (z 3) (2 ^ (z 3) - 1))) 27 (bpB (g 25) (g 26) (g 27) (z 3) (2 ^ (z 3) - 1))) z) := by
  refine q_startI RX0 (by decide +kernel) rfl (Nat.le_of_ble_eq_true rfl) ?_
  intro p e s m below meth c A args H locs ls hx hb hr hml hown hT hlk hP hK hD hA hS hl
  have hl : lv_has ls 3 [(0, .ref (ad 73))] := hl
  have hpw := pw2_le (z 3) hz
  obtain ⟨N2, hN2⟩ : ∃ y, y = 2 ^ (z 3) - 1 := ⟨_, rfl⟩
  have hN3 : N2 < 64 := by omega
  have zqL20 : ∀ (fu : Nat), ∀ (k : Nat), (N2 + 1 ≤ k + fu) → (k ≤ N2) → ∀ (H : Heap) (locs : List Loc) (ls : Array Slot), va_P D vwCl (gpW cA ad (gs (gs g 26 (bpG (g 25) (g 26) (z 3) k)) 27 (bpB (g 25) (g 26) (g 27) (z 3) k)) z) H → va_D A (gpW cA ad (gs (gs g 26 (bpG (g 25) (g 26) (z 3) k)) 27 (bpB (g 25) (g 26) (g 27) (z 3) k)) z) → va_S A s.heap H locs → lv_has ls 3 [(0, .ref (ad 73)), (1, .int (nI N2)), (2, .int (nI (k + 1)))] → W p l e rm_X0_bestByParts s m args below meth c H locs 0 0 (q_GI D (bpB (g 25) (g 26) (g 27) (z 3) (2 ^ (z 3) - 1) (2 ^ (z 3) - 1)) (gpW cA ad (gs (gs g 26 (bpG (g 25) (g 26) (z 3) (2 ^ (z 3) - 1))) 27 (bpB (g 25) (g 26) (g 27) (z 3) (2 ^ (z 3) - 1))) z) A below args s) (F0 m 20 ls []) := by
    intro fu
    induction fu with
    | zero =>
      intro k hfu hk H locs ls hP hD hS hl
      exfalso; omega
    | succ fu ih20 =>
      intro k hfu hk H locs ls hP hD hS hl
      refine lv_iload_n hx hb dX0_bestByParts_20 rfl (lv_at hl 2 rfl) ?_
      refine lv_iload_n hx hb dX0_bestByParts_21 rfl (lv_at hl 1 rfl) ?_
      refine lv_icmp_gt (tgt := 57) hx hb dX0_bestByParts_22 (by decide) (fun c_22 => ?_) (fun c_22 => ?_)
      · have c_22 := nI_lt1 (a := N2) (b := k + 1) (by omega) (by omega) c_22
        refine lv_aload_n hx hb dX0_bestByParts_57 rfl (lv_at hl 0 rfl) ?_
        refine q_get hx hb hT hown hK hP kw_X0 0 rfl rfl 3 (by decide) kf_X0_26 rfl (v := .ref (ad 27)) rfl dX0_bestByParts_58 ?_
        refine lv_iload_n hx hb dX0_bestByParts_61 rfl (lv_at hl 1 rfl) ?_
        refine q_callI (As := [.int (nI N2)]) (r := (bpB (g 25) (g 26) (g 27) (z 3) k) N2) (wc := rowW cA (ad 27) (ad 57) 64 (bpB (g 25) (g 26) (g 27) (z 3) k)) (w1 := rowW cA (ad 27) (ad 57) 64 (bpB (g 25) (g 26) (g 27) (z 3) k)) (ws1 := gpW cA ad (gs (gs g 26 (bpG (g 25) (g 26) (z 3) k)) 27 (bpB (g 25) (g 26) (g 27) (z 3) k)) z) hx hb hml hown hT hK hP hD hS hA (c_X3_atN l D cA (ad 27) (ad 57) 64 (bpB (g 25) (g 26) (g 27) (z 3) k) N2 (by omega) (by omega)) k_X3_at kl_X0_40 (q0 := 0) rfl rfl rfl [7, 8] rfl rfl rfl rfl hl rfl rfl (Nat.le_of_ble_eq_true rfl) ⟨⟨rfl, rfl⟩, Nat.le_of_ble_eq_true rfl, Nat.le_of_ble_eq_true rfl⟩ ⟨Nat.zero_le _, Nat.zero_le _⟩ dX0_bestByParts_62 (fun H locs hP hD hS => ?_)
        exact q_iret hx hb hr hlk (by rw [show k = N2 by omega, hN2]) (va_cast' hP (by rw [show k = N2 by omega, hN2])) hS dX0_bestByParts_65
      · have c_22 := nI_lt0 (a := N2) (b := k + 1) (by omega) (by omega) c_22
        refine lv_aload_n hx hb dX0_bestByParts_25 rfl (lv_at hl 0 rfl) ?_
        refine q_get hx hb hT hown hK hP kw_X0 0 rfl rfl 2 (by decide) kf_X0_23 rfl (v := .ref (ad 26)) rfl dX0_bestByParts_26 ?_
        refine lv_iload_n hx hb dX0_bestByParts_29 rfl (lv_at hl 2 rfl) ?_
        refine lv_aload_n hx hb dX0_bestByParts_30 rfl (lv_at hl 0 rfl) ?_
        refine lv_iload_n hx hb dX0_bestByParts_31 rfl (lv_at hl 2 rfl) ?_
        refine q_callIW (As := [.int (nI (k + 1))]) (r := wOf (setT (nI (k + 1))) (g 25) (z 3)) (w1 := gpW cA ad (gs (gs g 26 (bpG (g 25) (g 26) (z 3) k)) 27 (bpB (g 25) (g 26) (g 27) (z 3) k)) z) hx hb hml hown hT hK hP hD hS hA (c_X0_worthOfGroup l D cA ad (gs (gs g 26 (bpG (g 25) (g 26) (z 3) k)) 27 (bpB (g 25) (g 26) (g 27) (z 3) k)) z (k + 1) (show (k + 1) < 64 by omega) (show (z 3) ≤ 6 by omega)) k_X0_worthOfGroup kl_X0_44 (q0 := 0) rfl rfl rfl ((gpW_adr _ _ _ _).trans (gpW_adr _ _ _ _).symm) hl rfl rfl (Nat.le_of_ble_eq_true rfl) ⟨⟨rfl, rfl⟩, Nat.le_of_ble_eq_true rfl, Nat.le_of_ble_eq_true rfl⟩ ⟨Nat.zero_le _, Nat.zero_le _⟩ dX0_bestByParts_32 (fun H locs hP hD hS => ?_)
        refine q_callV (As := [.int (nI (k + 1)), .int (wOf (setT (nI (k + 1))) (g 25) (z 3))]) (wc := rowW cA (ad 26) (ad 56) 64 (bpG (g 25) (g 26) (z 3) k)) (w1 := rowW cA (ad 26) (ad 56) 64 (upd (bpG (g 25) (g 26) (z 3) k) (k + 1) (wOf (setT (nI (k + 1))) (g 25) (z 3)))) (ws1 := gpW cA ad (gs (gs g 26 (upd (bpG (g 25) (g 26) (z 3) k) (k + 1) (wOf (setT (nI (k + 1))) (g 25) (z 3)))) 27 (bpB (g 25) (g 26) (g 27) (z 3) k)) z) hx hb hml hown hT hK hP hD hS hA (c_X3_putN l D cA (ad 26) (ad 56) 64 (bpG (g 25) (g 26) (z 3) k) (k + 1) (wOf (setT (nI (k + 1))) (g 25) (z 3)) (by omega) (by omega)) k_X3_put kl_X0_36 (q0 := 0) rfl rfl rfl [5, 6] rfl rfl rfl rfl hl rfl rfl (Nat.le_of_ble_eq_true rfl) ⟨⟨rfl, rfl⟩, Nat.le_of_ble_eq_true rfl, Nat.le_of_ble_eq_true rfl⟩ ⟨Nat.zero_le _, Nat.zero_le _⟩ dX0_bestByParts_35 (fun H locs hP hD hS => ?_)
        obtain ⟨nF35_26, enF35_26⟩ : ∃ y : Nat → Int32, y = upd (bpG (g 25) (g 26) (z 3) k) (k + 1) (wOf (setT (nI (k + 1))) (g 25) (z 3)) := ⟨_, rfl⟩
        have hP : va_P D vwCl (gpW cA ad (gs (gs g 26 nF35_26) 27 (bpB (g 25) (g 26) (g 27) (z 3) k)) z) H := by rw [enF35_26]; exact hP
        have hD : va_D A (gpW cA ad (gs (gs g 26 nF35_26) 27 (bpB (g 25) (g 26) (g 27) (z 3) k)) z) := by rw [enF35_26]; exact hD
        refine lv_aload_n hx hb dX0_bestByParts_38 rfl (lv_at hl 0 rfl) ?_
        refine q_get hx hb hT hown hK hP kw_X0 0 rfl rfl 3 (by decide) kf_X0_26 rfl (v := .ref (ad 27)) rfl dX0_bestByParts_39 ?_
        refine lv_iload_n hx hb dX0_bestByParts_42 rfl (lv_at hl 2 rfl) ?_
        refine lv_aload_n hx hb dX0_bestByParts_43 rfl (lv_at hl 0 rfl) ?_
        refine lv_iload_n hx hb dX0_bestByParts_44 rfl (lv_at hl 2 rfl) ?_
        refine q_callIW (As := [.int (nI (k + 1))]) (r := bos nF35_26 (bpB (g 25) (g 26) (g 27) (z 3) k) (k + 1)) (w1 := gpW cA ad (gs (gs g 26 nF35_26) 27 (bpB (g 25) (g 26) (g 27) (z 3) k)) z) hx hb hml hown hT hK hP hD hS hA (c_X0_bestOfSet l D cA ad (gs (gs g 26 nF35_26) 27 (bpB (g 25) (g 26) (g 27) (z 3) k)) z (k + 1) (show (k + 1) < 64 by omega)) k_X0_bestOfSet kl_X0_47 (q0 := 0) rfl rfl rfl ((gpW_adr _ _ _ _).trans (gpW_adr _ _ _ _).symm) hl rfl rfl (Nat.le_of_ble_eq_true rfl) ⟨⟨rfl, rfl⟩, Nat.le_of_ble_eq_true rfl, Nat.le_of_ble_eq_true rfl⟩ ⟨Nat.zero_le _, Nat.zero_le _⟩ dX0_bestByParts_45 (fun H locs hP hD hS => ?_)
        refine q_callV (As := [.int (nI (k + 1)), .int (bos nF35_26 (bpB (g 25) (g 26) (g 27) (z 3) k) (k + 1))]) (wc := rowW cA (ad 27) (ad 57) 64 (bpB (g 25) (g 26) (g 27) (z 3) k)) (w1 := rowW cA (ad 27) (ad 57) 64 (upd (bpB (g 25) (g 26) (g 27) (z 3) k) (k + 1) (bos nF35_26 (bpB (g 25) (g 26) (g 27) (z 3) k) (k + 1)))) (ws1 := gpW cA ad (gs (gs g 26 nF35_26) 27 (upd (bpB (g 25) (g 26) (g 27) (z 3) k) (k + 1) (bos nF35_26 (bpB (g 25) (g 26) (g 27) (z 3) k) (k + 1)))) z) hx hb hml hown hT hK hP hD hS hA (c_X3_putN l D cA (ad 27) (ad 57) 64 (bpB (g 25) (g 26) (g 27) (z 3) k) (k + 1) (bos nF35_26 (bpB (g 25) (g 26) (g 27) (z 3) k) (k + 1)) (by omega) (by omega)) k_X3_put kl_X0_36 (q0 := 0) rfl rfl rfl [7, 8] rfl rfl rfl rfl hl rfl rfl (Nat.le_of_ble_eq_true rfl) ⟨⟨rfl, rfl⟩, Nat.le_of_ble_eq_true rfl, Nat.le_of_ble_eq_true rfl⟩ ⟨Nat.zero_le _, Nat.zero_le _⟩ dX0_bestByParts_48 (fun H locs hP hD hS => ?_)
        obtain ⟨nF48_27, enF48_27⟩ : ∃ y : Nat → Int32, y = upd (bpB (g 25) (g 26) (g 27) (z 3) k) (k + 1) (bos nF35_26 (bpB (g 25) (g 26) (g 27) (z 3) k) (k + 1)) := ⟨_, rfl⟩
        have hP : va_P D vwCl (gpW cA ad (gs (gs g 26 nF35_26) 27 nF48_27) z) H := by rw [enF48_27]; exact hP
        have hD : va_D A (gpW cA ad (gs (gs g 26 nF35_26) 27 nF48_27) z) := by rw [enF48_27]; exact hD
        refine lv_iinc (v := nI (k + 2)) (lv' := [(2, .int (nI (k + 2))), (0, .ref (ad 73)), (1, .int (nI N2))]) hx hb dX0_bestByParts_51 hl (k := 2) rfl (q_inc1 _) (by decide) rfl (fun ls hl => ?_)
        refine lv_goto (tgt := 20) hx hb dX0_bestByParts_54 (by decide) ?_
        rw [enF48_27] at hP hD
        rw [enF35_26] at hP hD
        have e9_0 : (nI (k + 2)) = (nI ((k + 1) + 1)) := by first | with_reducible rfl | (rfl)
        have hl9 : lv_has ls 3 [(0, .ref (ad 73)), (1, .int (nI N2)), (2, .int (nI ((k + 1) + 1)))] := lv_cast (l := [(0, .ref (ad 73)), (1, .int (nI N2)), (2, .int (nI (k + 2)))]) (lv_sub hl [1, 2, 0] rfl) (congrArg (fun v9 : Int32 => ([(0, .ref (ad 73)), (1, .int (nI N2)), (2, .int v9)] : List (Nat × Value))) e9_0)
        have ew9 : (gpW cA ad (gs (gs g 26 (upd (bpG (g 25) (g 26) (z 3) k) (k + 1) (wOf (setT (nI (k + 1))) (g 25) (z 3)))) 27 (upd (bpB (g 25) (g 26) (g 27) (z 3) k) (k + 1) (bos (upd (bpG (g 25) (g 26) (z 3) k) (k + 1) (wOf (setT (nI (k + 1))) (g 25) (z 3))) (bpB (g 25) (g 26) (g 27) (z 3) k) (k + 1)))) z) = (gpW cA ad (gs (gs g 26 (bpG (g 25) (g 26) (z 3) (k + 1))) 27 (bpB (g 25) (g 26) (g 27) (z 3) (k + 1))) z) := by first | with_reducible rfl | (rfl)
        have hP : va_P D vwCl (gpW cA ad (gs (gs g 26 (bpG (g 25) (g 26) (z 3) (k + 1))) 27 (bpB (g 25) (g 26) (g 27) (z 3) (k + 1))) z) H := va_cast' hP ew9
        have hD : va_D A (gpW cA ad (gs (gs g 26 (bpG (g 25) (g 26) (z 3) (k + 1))) 27 (bpB (g 25) (g 26) (g 27) (z 3) (k + 1))) z) := va_castD hD ew9
        exact ih20 (k + 1) (by omega) (by omega) _ _ _ hP hD hS hl9
  refine lv_iconst (v := nI 1) hx hb dX0_bestByParts_0 (by decide +kernel) ?_
  refine lv_aload_n hx hb dX0_bestByParts_1 rfl (lv_at hl 0 rfl) ?_
  refine q_get hx hb hT hown hK hP kw_X0 0 rfl rfl 5 (by decide) kf_X0_32 rfl (v := .int (nI (z 3))) rfl dX0_bestByParts_2 ?_
  refine lv_ishl hx hb dX0_bestByParts_5 ?_
  refine lv_iconst (v := nI 1) hx hb dX0_bestByParts_6 (by decide +kernel) ?_
  refine lv_isub hx hb dX0_bestByParts_7 ?_
  refine q_top (y := nI N2) ((pw2_m1 (z 3) hz).trans (by rw [hN2])) ?_
  refine lv_istore_n (lv' := [(1, .int (nI N2)), (0, .ref (ad 73))]) hx hb dX0_bestByParts_8 rfl hl (by decide) rfl (fun ls hl => ?_)
  refine lv_aload_n hx hb dX0_bestByParts_9 rfl (lv_at hl 1 rfl) ?_
  refine q_get hx hb hT hown hK hP kw_X0 0 rfl rfl 3 (by decide) kf_X0_26 rfl (v := .ref (ad 27)) rfl dX0_bestByParts_10 ?_
  refine lv_iconst (v := nI 0) hx hb dX0_bestByParts_13 (by decide +kernel) ?_
  refine lv_iconst (v := nI 0) hx hb dX0_bestByParts_14 (by decide +kernel) ?_
  refine q_callV (As := [.int (nI 0), .int (nI 0)]) (wc := rowW cA (ad 27) (ad 57) 64 (g 27)) (w1 := rowW cA (ad 27) (ad 57) 64 (upd (g 27) 0 (nI 0))) (ws1 := gpW cA ad (gs g 27 (upd (g 27) 0 (nI 0))) z) hx hb hml hown hT hK hP hD hS hA (c_X3_putN l D cA (ad 27) (ad 57) 64 (g 27) 0 (nI 0) (by omega) (by omega)) k_X3_put kl_X0_36 (q0 := 0) rfl rfl rfl [7, 8] rfl rfl rfl rfl hl rfl rfl (Nat.le_of_ble_eq_true rfl) ⟨⟨rfl, rfl⟩, Nat.le_of_ble_eq_true rfl, Nat.le_of_ble_eq_true rfl⟩ ⟨Nat.zero_le _, Nat.zero_le _⟩ dX0_bestByParts_15 (fun H locs hP hD hS => ?_)
  obtain ⟨nF15_27, enF15_27⟩ : ∃ y : Nat → Int32, y = upd (g 27) 0 (nI 0) := ⟨_, rfl⟩
  have hP : va_P D vwCl (gpW cA ad (gs g 27 nF15_27) z) H := by rw [enF15_27]; exact hP
  have hD : va_D A (gpW cA ad (gs g 27 nF15_27) z) := by rw [enF15_27]; exact hD
  refine lv_iconst (v := nI 1) hx hb dX0_bestByParts_18 (by decide +kernel) ?_
  refine lv_istore_n (lv' := [(2, .int (nI 1)), (1, .int (nI N2)), (0, .ref (ad 73))]) hx hb dX0_bestByParts_19 rfl hl (by decide) rfl (fun ls hl => ?_)
  rw [enF15_27] at hP hD
  have e9_0 : (nI 1) = (nI (0 + 1)) := by first | with_reducible rfl | (rfl)
  have hl9 : lv_has ls 3 [(0, .ref (ad 73)), (1, .int (nI N2)), (2, .int (nI (0 + 1)))] := lv_cast (l := [(0, .ref (ad 73)), (1, .int (nI N2)), (2, .int (nI 1))]) (lv_sub hl [2, 1, 0] rfl) (congrArg (fun v9 : Int32 => ([(0, .ref (ad 73)), (1, .int (nI N2)), (2, .int v9)] : List (Nat × Value))) e9_0)
  have ew9 : (gpW cA ad (gs g 27 (upd (g 27) 0 (nI 0))) z) = (gpW cA ad (gs (gs g 26 (bpG (g 25) (g 26) (z 3) 0)) 27 (bpB (g 25) (g 26) (g 27) (z 3) 0)) z) := by first | with_reducible rfl | (rfl)
  have hP : va_P D vwCl (gpW cA ad (gs (gs g 26 (bpG (g 25) (g 26) (z 3) 0)) 27 (bpB (g 25) (g 26) (g 27) (z 3) 0)) z) H := va_cast' hP ew9
  have hD : va_D A (gpW cA ad (gs (gs g 26 (bpG (g 25) (g 26) (z 3) 0)) 27 (bpB (g 25) (g 26) (g 27) (z 3) 0)) z) := va_castD hD ew9
  exact zqL20 (N2 + 1) 0 (by omega) (by omega) _ _ _ hP hD hS hl9
abbrev rm_X0_greatestGroupBefore : Room := { frames := 1, cells := 0, slots := 0, locals := 21 }
set_option maxRecDepth 100000 in
set_option maxHeartbeats 4000000 in
theorem c_X0_greatestGroupBefore (l : Launch) (D : va_G) (cA : ClassId) (ad : Nat → Nat) (g : Nat → Nat → Int32) (z : Nat → Nat) (k : Nat) (hk9 : k ≤ 6) : q_CI l yX0_greatestGroupBefore [Cond.code yX0_greatestGroupBefore cX0_greatestGroupBefore 4 (some .int)] rm_X0_greatestGroupBefore D cA [.ref (ad 73), .int (nI k)] (gpW cA ad g z) (ggb (g 28) k) (gpW cA ad g z) := by
  refine q_startI RX0 (by decide +kernel) rfl (Nat.le_of_ble_eq_true rfl) ?_
  intro p e s m below meth c A args H locs ls hx hb hr hml hown hT hlk hP hK hD hA hS hl
  have hl : lv_has ls 4 [(0, .ref (ad 73)), (1, .int (nI k))] := hl
  have zqL4 : ∀ (fu : Nat), ∀ (j : Nat), (k + 1 ≤ j + fu) → (j ≤ k) → ∀ (H : Heap) (locs : List Loc) (ls : Array Slot), va_P D vwCl (gpW cA ad g z) H → va_D A (gpW cA ad g z) → va_S A s.heap H locs → lv_has ls 4 [(0, .ref (ad 73)), (1, .int (nI k)), (2, .int (ggb (g 28) j)), (3, .int (nI j))] → W p l e rm_X0_greatestGroupBefore s m args below meth c H locs 0 0 (q_GI D (ggb (g 28) k) (gpW cA ad g z) A below args s) (F0 m 4 ls []) := by
    intro fu
    induction fu with
    | zero =>
      intro j hfu hj H locs ls hP hD hS hl
      exfalso; omega
    | succ fu ih4 =>
      intro j hfu hj H locs ls hP hD hS hl
      refine lv_iload_n hx hb dX0_greatestGroupBefore_4 rfl (lv_at hl 3 rfl) ?_
      refine lv_iload_n hx hb dX0_greatestGroupBefore_5 rfl (lv_at hl 1 rfl) ?_
      refine lv_icmp_ge (tgt := 28) hx hb dX0_greatestGroupBefore_6 (by decide) (fun c_6 => ?_) (fun c_6 => ?_)
      · have c_6 := nI_le1 (a := k) (b := j) (by omega) (by omega) c_6
        refine lv_iload_n hx hb dX0_greatestGroupBefore_28 rfl (lv_at hl 2 rfl) ?_
        exact q_iret hx hb hr hlk (by rw [show j = k by omega]) hP hS dX0_greatestGroupBefore_29
      · have c_6 := nI_le0 (a := k) (b := j) (by omega) (by omega) c_6
        refine lv_iload_n hx hb dX0_greatestGroupBefore_9 rfl (lv_at hl 2 rfl) ?_
        refine lv_aload_n hx hb dX0_greatestGroupBefore_10 rfl (lv_at hl 0 rfl) ?_
        refine q_get hx hb hT hown hK hP kw_X0 0 rfl rfl 4 (by decide) kf_X0_29 rfl (v := .ref (ad 28)) rfl dX0_greatestGroupBefore_11 ?_
        refine lv_iload_n hx hb dX0_greatestGroupBefore_14 rfl (lv_at hl 3 rfl) ?_
        refine q_callI (As := [.int (nI j)]) (r := g 28 j) (wc := rowW cA (ad 28) (ad 58) 6 (g 28)) (w1 := rowW cA (ad 28) (ad 58) 6 (g 28)) (ws1 := gpW cA ad g z) hx hb hml hown hT hK hP hD hS hA (c_X3_atN l D cA (ad 28) (ad 58) 6 (g 28) j (by omega) (by omega)) k_X3_at kl_X0_40 (q0 := 0) rfl rfl rfl [9, 10] rfl rfl rfl rfl hl rfl rfl (Nat.le_of_ble_eq_true rfl) ⟨⟨rfl, rfl⟩, Nat.le_of_ble_eq_true rfl, Nat.le_of_ble_eq_true rfl⟩ ⟨Nat.zero_le _, Nat.zero_le _⟩ dX0_greatestGroupBefore_15 (fun H locs hP hD hS => ?_)
        refine q_max hx hb hml hown hT hl kl_X0_55 (Nat.le_of_ble_eq_true rfl) (Nat.le_of_ble_eq_true rfl) ⟨Nat.zero_le _, Nat.zero_le _⟩ dX0_greatestGroupBefore_18 ?_
        refine q_top (y := ggb (g 28) (j + 1)) (rfl) ?_
        refine lv_istore_n (lv' := [(2, .int (ggb (g 28) (j + 1))), (0, .ref (ad 73)), (1, .int (nI k)), (3, .int (nI j))]) hx hb dX0_greatestGroupBefore_21 rfl hl (by decide) rfl (fun ls hl => ?_)
        refine lv_iinc (v := nI (j + 1)) (lv' := [(3, .int (nI (j + 1))), (2, .int (ggb (g 28) (j + 1))), (0, .ref (ad 73)), (1, .int (nI k))]) hx hb dX0_greatestGroupBefore_22 hl (k := 3) rfl (q_inc1 _) (by decide) rfl (fun ls hl => ?_)
        refine lv_goto (tgt := 4) hx hb dX0_greatestGroupBefore_25 (by decide) ?_
        exact ih4 (j + 1) (by omega) (by omega) _ _ _ hP hD hS (lv_sub hl [2, 3, 1, 0] rfl)
  refine lv_iconst (v := nI 0) hx hb dX0_greatestGroupBefore_0 (by decide +kernel) ?_
  refine lv_istore_n (lv' := [(2, .int (nI 0)), (0, .ref (ad 73)), (1, .int (nI k))]) hx hb dX0_greatestGroupBefore_1 rfl hl (by decide) rfl (fun ls hl => ?_)
  refine lv_iconst (v := nI 0) hx hb dX0_greatestGroupBefore_2 (by decide +kernel) ?_
  refine lv_istore_n (lv' := [(3, .int (nI 0)), (2, .int (nI 0)), (0, .ref (ad 73)), (1, .int (nI k))]) hx hb dX0_greatestGroupBefore_3 rfl hl (by decide) rfl (fun ls hl => ?_)
  have e9_0 : (nI 0) = (ggb (g 28) 0) := by first | with_reducible rfl | (rfl)
  have hl9 : lv_has ls 4 [(0, .ref (ad 73)), (1, .int (nI k)), (2, .int (ggb (g 28) 0)), (3, .int (nI 0))] := lv_cast (l := [(0, .ref (ad 73)), (1, .int (nI k)), (2, .int (nI 0)), (3, .int (nI 0))]) (lv_sub hl [2, 3, 1, 0] rfl) (congrArg (fun v9 : Int32 => ([(0, .ref (ad 73)), (1, .int (nI k)), (2, .int v9), (3, .int (nI 0))] : List (Nat × Value))) e9_0)
  exact zqL4 (k + 1) 0 (by omega) (by omega) _ _ _ hP hD hS hl9
abbrev rm_X0_goOnToNext : Room := { frames := 2, cells := 0, slots := 0, locals := 44 }
set_option maxRecDepth 100000 in
set_option maxHeartbeats 4000000 in
theorem c_X0_goOnToNext (l : Launch) (D : va_G) (cA : ClassId) (ad : Nat → Nat) (g : Nat → Nat → Int32) (z : Nat → Nat)  (hz : (z 3) ≤ 6) : q_CI l yX0_goOnToNext [Cond.code yX0_goOnToNext cX0_goOnToNext 2 (some .boolean)] rm_X0_goOnToNext D cA [.ref (ad 73)] (gpW cA ad g z) (q_b (goB (g 28) (z 3))) (gpW cA ad (gs g 28 (goG (g 28) (z 3))) z) := by
  refine q_startI RX0 (by decide +kernel) rfl (Nat.le_of_ble_eq_true rfl) ?_
  intro p e s m below meth c A args H locs ls hx hb hr hml hown hT hlk hP hK hD hA hS hl
  have hl : lv_has ls 2 [(0, .ref (ad 73))] := hl
  have zqL7 : ∀ (fu : Nat), ∀ (pp : Nat) (gr : Nat → Int32), (pp + 1 ≤ fu) → (pp ≤ 6) → (goG gr pp = goG (g 28) (z 3) ∧ goB gr pp = goB (g 28) (z 3)) → ∀ (H : Heap) (locs : List Loc) (ls : Array Slot), va_P D vwCl (gpW cA ad (gs g 28 gr) z) H → va_D A (gpW cA ad (gs g 28 gr) z) → va_S A s.heap H locs → lv_has ls 2 [(0, .ref (ad 73)), (1, .int (pm pp))] → W p l e rm_X0_goOnToNext s m args below meth c H locs 0 0 (q_GI D (q_b (goB (g 28) (z 3))) (gpW cA ad (gs g 28 (goG (g 28) (z 3))) z) A below args s) (F0 m 7 ls []) := by
    intro fu
    induction fu with
    | zero =>
      intro pp gr hfu hp he H locs ls hP hD hS hl
      exfalso; omega
    | succ fu ih7 =>
      intro pp gr hfu hp he H locs ls hP hD hS hl
      have zqJ11 : ∀ (k : Nat), (0 < k) → (k < 6) → (pp = k + 1) → (goG gr (k + 1) = goG (g 28) (z 3) ∧ goB gr (k + 1) = goB (g 28) (z 3)) → ∀ (H : Heap) (locs : List Loc) (ls : Array Slot), va_P D vwCl (gpW cA ad (gs g 28 gr) z) H → va_D A (gpW cA ad (gs g 28 gr) z) → va_S A s.heap H locs → lv_has ls 2 [(0, .ref (ad 73)), (1, .int (nI k))] → W p l e rm_X0_goOnToNext s m args below meth c H locs 0 0 (q_GI D (q_b (goB (g 28) (z 3))) (gpW cA ad (gs g 28 (goG (g 28) (z 3))) z) A below args s) (F0 m 11 ls []) := by
        intro k hk hk6 hkp he2 H locs ls hP hD hS hl
        refine lv_aload_n hx hb dX0_goOnToNext_11 rfl (lv_at hl 0 rfl) ?_
        refine q_get hx hb hT hown hK hP kw_X0 0 rfl rfl 4 (by decide) kf_X0_29 rfl (v := .ref (ad 28)) rfl dX0_goOnToNext_12 ?_
        refine lv_iload_n hx hb dX0_goOnToNext_15 rfl (lv_at hl 1 rfl) ?_
        refine q_callI (As := [.int (nI k)]) (r := gr k) (wc := rowW cA (ad 28) (ad 58) 6 gr) (w1 := rowW cA (ad 28) (ad 58) 6 gr) (ws1 := gpW cA ad (gs g 28 gr) z) hx hb hml hown hT hK hP hD hS hA (c_X3_atN l D cA (ad 28) (ad 58) 6 gr k (by omega) (by omega)) k_X3_at kl_X0_40 (q0 := 0) rfl rfl rfl [9, 10] rfl rfl rfl rfl hl rfl rfl (Nat.le_of_ble_eq_true rfl) ⟨⟨rfl, rfl⟩, Nat.le_of_ble_eq_true rfl, Nat.le_of_ble_eq_true rfl⟩ ⟨Nat.zero_le _, Nat.zero_le _⟩ dX0_goOnToNext_16 (fun H locs hP hD hS => ?_)
        refine lv_aload_n hx hb dX0_goOnToNext_19 rfl (lv_at hl 0 rfl) ?_
        refine lv_iload_n hx hb dX0_goOnToNext_20 rfl (lv_at hl 1 rfl) ?_
        refine q_callIW (As := [.int (nI k)]) (r := ggb gr k) (w1 := gpW cA ad (gs g 28 gr) z) hx hb hml hown hT hK hP hD hS hA (c_X0_greatestGroupBefore l D cA ad (gs g 28 gr) z k (show k ≤ 6 by omega)) k_X0_greatestGroupBefore kl_X0_71 (q0 := 0) rfl rfl rfl ((gpW_adr _ _ _ _).trans (gpW_adr _ _ _ _).symm) hl rfl rfl (Nat.le_of_ble_eq_true rfl) ⟨⟨rfl, rfl⟩, Nat.le_of_ble_eq_true rfl, Nat.le_of_ble_eq_true rfl⟩ ⟨Nat.zero_le _, Nat.zero_le _⟩ dX0_goOnToNext_21 (fun H locs hP hD hS => ?_)
        refine lv_icmp_gt (tgt := 47) hx hb dX0_goOnToNext_24 (by decide) (fun c_24 => ?_) (fun c_24 => ?_)
        · have d_24 : ¬ gr k ≤ ggb gr k := q_gt_of c_24
          refine lv_aload_n hx hb dX0_goOnToNext_47 rfl (lv_at hl 0 rfl) ?_
          refine q_get hx hb hT hown hK hP kw_X0 0 rfl rfl 4 (by decide) kf_X0_29 rfl (v := .ref (ad 28)) rfl dX0_goOnToNext_48 ?_
          refine lv_iload_n hx hb dX0_goOnToNext_51 rfl (lv_at hl 1 rfl) ?_
          refine lv_iconst (v := nI 0) hx hb dX0_goOnToNext_52 (by decide +kernel) ?_
          refine q_callV (As := [.int (nI k), .int (nI 0)]) (wc := rowW cA (ad 28) (ad 58) 6 gr) (w1 := rowW cA (ad 28) (ad 58) 6 (upd gr k (nI 0))) (ws1 := gpW cA ad (gs g 28 (upd gr k (nI 0))) z) hx hb hml hown hT hK hP hD hS hA (c_X3_putN l D cA (ad 28) (ad 58) 6 gr k (nI 0) (by omega) (by omega)) k_X3_put kl_X0_36 (q0 := 0) rfl rfl rfl [9, 10] rfl rfl rfl rfl hl rfl rfl (Nat.le_of_ble_eq_true rfl) ⟨⟨rfl, rfl⟩, Nat.le_of_ble_eq_true rfl, Nat.le_of_ble_eq_true rfl⟩ ⟨Nat.zero_le _, Nat.zero_le _⟩ dX0_goOnToNext_53 (fun H locs hP hD hS => ?_)
          obtain ⟨nF53_28, enF53_28⟩ : ∃ y : Nat → Int32, y = upd gr k (nI 0) := ⟨_, rfl⟩
          have hP : va_P D vwCl (gpW cA ad (gs g 28 nF53_28) z) H := by rw [enF53_28]; exact hP
          have hD : va_D A (gpW cA ad (gs g 28 nF53_28) z) := by rw [enF53_28]; exact hD
          refine lv_iinc (v := nI (k - 1)) (lv' := [(1, .int (nI (k - 1))), (0, .ref (ad 73))]) hx hb dX0_goOnToNext_56 hl (k := 1) rfl (q_dec1 (by omega)) (by decide) rfl (fun ls hl => ?_)
          refine lv_goto (tgt := 7) hx hb dX0_goOnToNext_59 (by decide) ?_
          rw [enF53_28] at hP hD
          have e9_0 : (nI (k - 1)) = (pm k) := by first | with_reducible rfl | (exact pm_s (by omega))
          have hl9 : lv_has ls 2 [(0, .ref (ad 73)), (1, .int (pm k))] := lv_cast (l := [(0, .ref (ad 73)), (1, .int (nI (k - 1)))]) (lv_sub hl [1, 0] rfl) (congrArg (fun v9 : Int32 => ([(0, .ref (ad 73)), (1, .int v9)] : List (Nat × Value))) e9_0)
          exact ih7 k (upd gr k (nI 0)) (by omega) (by omega) ⟨(goG_f (by omega) d_24).1.symm.trans he2.1, (goG_f (by omega) d_24).2.symm.trans he2.2⟩ _ _ _ hP hD hS hl9
        · have d_24 : gr k ≤ ggb gr k := q_le_of c_24
          refine lv_aload_n hx hb dX0_goOnToNext_27 rfl (lv_at hl 0 rfl) ?_
          refine q_get hx hb hT hown hK hP kw_X0 0 rfl rfl 4 (by decide) kf_X0_29 rfl (v := .ref (ad 28)) rfl dX0_goOnToNext_28 ?_
          refine lv_iload_n hx hb dX0_goOnToNext_31 rfl (lv_at hl 1 rfl) ?_
          refine lv_aload_n hx hb dX0_goOnToNext_32 rfl (lv_at hl 0 rfl) ?_
          refine q_get hx hb hT hown hK hP kw_X0 0 rfl rfl 4 (by decide) kf_X0_29 rfl (v := .ref (ad 28)) rfl dX0_goOnToNext_33 ?_
          refine lv_iload_n hx hb dX0_goOnToNext_36 rfl (lv_at hl 1 rfl) ?_
          refine q_callI (As := [.int (nI k)]) (r := gr k) (wc := rowW cA (ad 28) (ad 58) 6 gr) (w1 := rowW cA (ad 28) (ad 58) 6 gr) (ws1 := gpW cA ad (gs g 28 gr) z) hx hb hml hown hT hK hP hD hS hA (c_X3_atN l D cA (ad 28) (ad 58) 6 gr k (by omega) (by omega)) k_X3_at kl_X0_40 (q0 := 0) rfl rfl rfl [9, 10] rfl rfl rfl rfl hl rfl rfl (Nat.le_of_ble_eq_true rfl) ⟨⟨rfl, rfl⟩, Nat.le_of_ble_eq_true rfl, Nat.le_of_ble_eq_true rfl⟩ ⟨Nat.zero_le _, Nat.zero_le _⟩ dX0_goOnToNext_37 (fun H locs hP hD hS => ?_)
          refine lv_iconst (v := nI 1) hx hb dX0_goOnToNext_40 (by decide +kernel) ?_
          refine lv_iadd hx hb dX0_goOnToNext_41 ?_
          refine q_callV (As := [.int (nI k), .int ((gr k) + (nI 1))]) (wc := rowW cA (ad 28) (ad 58) 6 gr) (w1 := rowW cA (ad 28) (ad 58) 6 (upd gr k ((gr k) + (nI 1)))) (ws1 := gpW cA ad (gs g 28 (upd gr k ((gr k) + (nI 1)))) z) hx hb hml hown hT hK hP hD hS hA (c_X3_putN l D cA (ad 28) (ad 58) 6 gr k ((gr k) + (nI 1)) (by omega) (by omega)) k_X3_put kl_X0_36 (q0 := 0) rfl rfl rfl [9, 10] rfl rfl rfl rfl hl rfl rfl (Nat.le_of_ble_eq_true rfl) ⟨⟨rfl, rfl⟩, Nat.le_of_ble_eq_true rfl, Nat.le_of_ble_eq_true rfl⟩ ⟨Nat.zero_le _, Nat.zero_le _⟩ dX0_goOnToNext_42 (fun H locs hP hD hS => ?_)
          obtain ⟨nF42_28, enF42_28⟩ : ∃ y : Nat → Int32, y = upd gr k ((gr k) + (nI 1)) := ⟨_, rfl⟩
          have hP : va_P D vwCl (gpW cA ad (gs g 28 nF42_28) z) H := by rw [enF42_28]; exact hP
          have hD : va_D A (gpW cA ad (gs g 28 nF42_28) z) := by rw [enF42_28]; exact hD
          refine lv_iconst (v := nI 1) hx hb dX0_goOnToNext_45 (by decide +kernel) ?_
          rw [enF42_28] at hP hD
          exact q_zret hx hb hr hlk (Or.inr rfl) (by exact q_bt (by rw [← he2.2, (goG_t hk d_24).2])) (va_cast' hP (by rw [← he2.1, (goG_t hk d_24).1])) hS dX0_goOnToNext_46
      refine lv_iload_n hx hb dX0_goOnToNext_7 rfl (lv_at hl 1 rfl) ?_
      refine lv_if_le (tgt := 62) hx hb dX0_goOnToNext_8 (by decide) (fun c_8 => ?_) (fun c_8 => ?_)
      · have d_8 := pm_le (by omega) c_8
        refine lv_iconst (v := nI 0) hx hb dX0_goOnToNext_62 (by decide +kernel) ?_
        exact q_zret hx hb hr hlk (Or.inl rfl) (by exact q_bf (by rw [← he.2, (goG_1 d_8).2])) (va_cast' hP (by rw [← he.1, (goG_1 d_8).1])) hS dX0_goOnToNext_63
      · have d_8 := pm_gt _ (by omega) c_8
        have e9_0 : (pm pp) = (nI (pp - 1)) := by first | with_reducible rfl | (exact (pm_s (by omega)).symm)
        have hl9 : lv_has ls 2 [(0, .ref (ad 73)), (1, .int (nI (pp - 1)))] := lv_cast (l := [(0, .ref (ad 73)), (1, .int (pm pp))]) (lv_sub hl [0, 1] rfl) (congrArg (fun v9 : Int32 => ([(0, .ref (ad 73)), (1, .int v9)] : List (Nat × Value))) e9_0)
        exact zqJ11 (pp - 1) (by omega) (by omega) (by omega) (by rw [show pp - 1 + 1 = pp by omega]; exact he) _ _ _ hP hD hS hl9
  refine lv_aload_n hx hb dX0_goOnToNext_0 rfl (lv_at hl 0 rfl) ?_
  refine q_get hx hb hT hown hK hP kw_X0 0 rfl rfl 5 (by decide) kf_X0_32 rfl (v := .int (nI (z 3))) rfl dX0_goOnToNext_1 ?_
  refine lv_iconst (v := nI 1) hx hb dX0_goOnToNext_4 (by decide +kernel) ?_
  refine lv_isub hx hb dX0_goOnToNext_5 ?_
  refine q_top (y := pm (z 3)) (rfl) ?_
  refine lv_istore_n (lv' := [(1, .int (pm (z 3))), (0, .ref (ad 73))]) hx hb dX0_goOnToNext_6 rfl hl (by decide) rfl (fun ls hl => ?_)
  have ew9 : (gpW cA ad g z) = (gpW cA ad (gs g 28 (g 28)) z) := by first | with_reducible rfl | (rfl)
  have hP : va_P D vwCl (gpW cA ad (gs g 28 (g 28)) z) H := va_cast' hP ew9
  have hD : va_D A (gpW cA ad (gs g 28 (g 28)) z) := va_castD hD ew9
  exact zqL7 (z 3 + 1) (z 3) (g 28) (by omega) (by omega) ⟨rfl, rfl⟩ _ _ _ hP hD hS (lv_sub hl [1, 0] rfl)
abbrev rm_X0_bestOfAll : Room := { frames := 3, cells := 0, slots := 0, locals := 67 }
set_option maxRecDepth 100000 in
set_option maxHeartbeats 4000000 in
theorem c_X0_bestOfAll (l : Launch) (D : va_G) (cA : ClassId) (ad : Nat → Nat) (g : Nat → Nat → Int32) (z : Nat → Nat)  (hz : (z 3) ≤ 6) : q_CI l yX0_bestOfAll [Cond.code yX0_bestOfAll cX0_bestOfAll 3 (some .int)] rm_X0_bestOfAll D cA [.ref (ad 73)] (gpW cA ad g z) (baF (g 25) (z 3) 202 (fun _ => nI 0) (wOf (groT (fun _ => nI 0)) (g 25) (z 3))) (gpW cA ad (gs g 28 (baG (z 3) 202 (fun _ => nI 0))) z) := by
  refine q_startI RX0 (by decide +kernel) rfl (Nat.le_of_ble_eq_true rfl) ?_
  intro p e s m below meth c A args H locs ls hx hb hr hml hown hT hlk hP hK hD hA hS hl
  have hl : lv_has ls 3 [(0, .ref (ad 73))] := hl
  have zqL15 : ∀ (fu : Nat), ∀ (k : Nat) (gr : Nat → Int32) (b : Int32), (203 ≤ k + fu) → (k ≤ 202) → (baF (g 25) (z 3) (202 - k) gr b = baF (g 25) (z 3) 202 (fun _ => nI 0) (wOf (groT (fun _ => nI 0)) (g 25) (z 3)) ∧ baG (z 3) (202 - k) gr = baG (z 3) 202 (fun _ => nI 0)) → ∀ (H : Heap) (locs : List Loc) (ls : Array Slot), va_P D vwCl (gpW cA ad (gs g 28 gr) z) H → va_D A (gpW cA ad (gs g 28 gr) z) → va_S A s.heap H locs → lv_has ls 3 [(0, .ref (ad 73)), (1, .int b), (2, .int (nI (k + 1)))] → W p l e rm_X0_bestOfAll s m args below meth c H locs 0 0 (q_GI D (baF (g 25) (z 3) 202 (fun _ => nI 0) (wOf (groT (fun _ => nI 0)) (g 25) (z 3))) (gpW cA ad (gs g 28 (baG (z 3) 202 (fun _ => nI 0))) z) A below args s) (F0 m 15 ls []) := by
    intro fu
    induction fu with
    | zero =>
      intro k gr b hfu hk he H locs ls hP hD hS hl
      exfalso; omega
    | succ fu ih15 =>
      intro k gr b hfu hk he H locs ls hP hD hS hl
      refine lv_iload_n hx hb dX0_bestOfAll_15 rfl (lv_at hl 2 rfl) ?_
      refine lv_sipush (v := nI 203) hx hb dX0_bestOfAll_16 (by decide +kernel) ?_
      refine lv_icmp_ge (tgt := 44) hx hb dX0_bestOfAll_19 (by decide) (fun c_19 => ?_) (fun c_19 => ?_)
      · have c_19 := nI_le1 (a := 203) (b := k + 1) (by omega) (by omega) c_19
        refine lv_iload_n hx hb dX0_bestOfAll_44 rfl (lv_at hl 1 rfl) ?_
        exact q_iret hx hb hr hlk (by first | (rw [show 202 - k = 0 by omega] at he; exact he.1) | (rw [show 202 - k = (202 - (k + 1)) + 1 by omega, baF, baG, c_26] at he; exact he.1)) (va_cast' hP (by first | (rw [show 202 - k = 0 by omega] at he; rw [← he.2]; rfl) | (rw [show 202 - k = (202 - (k + 1)) + 1 by omega, baF, baG, c_26] at he; rw [← he.2]; rfl))) hS dX0_bestOfAll_45
      · have c_19 := nI_le0 (a := 203) (b := k + 1) (by omega) (by omega) c_19
        refine lv_aload_n hx hb dX0_bestOfAll_22 rfl (lv_at hl 0 rfl) ?_
        refine q_callIW (As := []) (r := q_b (goB gr (z 3))) (w1 := gpW cA ad (gs g 28 (goG gr (z 3))) z) hx hb hml hown hT hK hP hD hS hA (c_X0_goOnToNext l D cA ad (gs g 28 gr) z (show (z 3) ≤ 6 by omega)) k_X0_goOnToNext kl_X0_67 (q0 := 0) rfl rfl rfl ((gpW_adr _ _ _ _).trans (gpW_adr _ _ _ _).symm) hl rfl rfl (Nat.le_of_ble_eq_true rfl) ⟨⟨rfl, rfl⟩, Nat.le_of_ble_eq_true rfl, Nat.le_of_ble_eq_true rfl⟩ ⟨Nat.zero_le _, Nat.zero_le _⟩ dX0_bestOfAll_23 (fun H locs hP hD hS => ?_)
        obtain ⟨nF23_28, enF23_28⟩ : ∃ y : Nat → Int32, y = goG gr (z 3) := ⟨_, rfl⟩
        have hP : va_P D vwCl (gpW cA ad (gs g 28 nF23_28) z) H := by rw [enF23_28]; exact hP
        have hD : va_D A (gpW cA ad (gs g 28 nF23_28) z) := by rw [enF23_28]; exact hD
        refine lv_if_eq (tgt := 44) hx hb dX0_bestOfAll_26 (by decide) (fun c_26 => ?_) (fun c_26 => ?_)
        · have c_26 := q_b0e c_26
          refine lv_iload_n hx hb dX0_bestOfAll_44 rfl (lv_at hl 1 rfl) ?_
          rw [enF23_28] at hP hD
          exact q_iret hx hb hr hlk (by first | (rw [show 202 - k = 0 by omega] at he; exact he.1) | (rw [show 202 - k = (202 - (k + 1)) + 1 by omega, baF, baG, c_26] at he; exact he.1)) (va_cast' hP (by first | (rw [show 202 - k = 0 by omega] at he; rw [← he.2]; rfl) | (rw [show 202 - k = (202 - (k + 1)) + 1 by omega, baF, baG, c_26] at he; rw [← he.2]; rfl))) hS dX0_bestOfAll_45
        · have c_26 := q_b0n c_26
          refine lv_iload_n hx hb dX0_bestOfAll_29 rfl (lv_at hl 1 rfl) ?_
          refine lv_aload_n hx hb dX0_bestOfAll_30 rfl (lv_at hl 0 rfl) ?_
          refine q_callIW (As := []) (r := wOf (groT nF23_28) (g 25) (z 3)) (w1 := gpW cA ad (gs g 28 nF23_28) z) hx hb hml hown hT hK hP hD hS hA (c_X0_worthOfGrouping l D cA ad (gs g 28 nF23_28) z (show (z 3) ≤ 6 by omega)) k_X0_worthOfGrouping kl_X0_63 (q0 := 0) rfl rfl rfl ((gpW_adr _ _ _ _).trans (gpW_adr _ _ _ _).symm) hl rfl rfl (Nat.le_of_ble_eq_true rfl) ⟨⟨rfl, rfl⟩, Nat.le_of_ble_eq_true rfl, Nat.le_of_ble_eq_true rfl⟩ ⟨Nat.zero_le _, Nat.zero_le _⟩ dX0_bestOfAll_31 (fun H locs hP hD hS => ?_)
          refine q_max hx hb hml hown hT hl kl_X0_55 (Nat.le_of_ble_eq_true rfl) (Nat.le_of_ble_eq_true rfl) ⟨Nat.zero_le _, Nat.zero_le _⟩ dX0_bestOfAll_34 ?_
          refine q_top (y := mx b (wOf (groT (goG gr (z 3))) (g 25) (z 3))) (by rw [enF23_28]; rfl) ?_
          refine lv_istore_n (lv' := [(1, .int (mx b (wOf (groT (goG gr (z 3))) (g 25) (z 3)))), (0, .ref (ad 73)), (2, .int (nI (k + 1)))]) hx hb dX0_bestOfAll_37 rfl hl (by decide) rfl (fun ls hl => ?_)
          refine lv_iinc (v := nI (k + 2)) (lv' := [(2, .int (nI (k + 2))), (1, .int (mx b (wOf (groT (goG gr (z 3))) (g 25) (z 3)))), (0, .ref (ad 73))]) hx hb dX0_bestOfAll_38 hl (k := 2) rfl (q_inc1 _) (by decide) rfl (fun ls hl => ?_)
          refine lv_goto (tgt := 15) hx hb dX0_bestOfAll_41 (by decide) ?_
          rw [enF23_28] at hP hD
          have e9_0 : (nI (k + 2)) = (nI ((k + 1) + 1)) := by first | with_reducible rfl | (rfl)
          have hl9 : lv_has ls 3 [(0, .ref (ad 73)), (1, .int (mx b (wOf (groT (goG gr (z 3))) (g 25) (z 3)))), (2, .int (nI ((k + 1) + 1)))] := lv_cast (l := [(0, .ref (ad 73)), (1, .int (mx b (wOf (groT (goG gr (z 3))) (g 25) (z 3)))), (2, .int (nI (k + 2)))]) (lv_sub hl [2, 1, 0] rfl) (congrArg (fun v9 : Int32 => ([(0, .ref (ad 73)), (1, .int (mx b (wOf (groT (goG gr (z 3))) (g 25) (z 3)))), (2, .int v9)] : List (Nat × Value))) e9_0)
          exact ih15 (k + 1) (goG gr (z 3)) (mx b (wOf (groT (goG gr (z 3))) (g 25) (z 3))) (by omega) (by omega) (by rw [show 202 - k = (202 - (k + 1)) + 1 by omega, baF, baG, c_26] at he; exact he) _ _ _ hP hD hS hl9
  refine lv_aload_n hx hb dX0_bestOfAll_0 rfl (lv_at hl 0 rfl) ?_
  refine q_get hx hb hT hown hK hP kw_X0 0 rfl rfl 4 (by decide) kf_X0_29 rfl (v := .ref (ad 28)) rfl dX0_bestOfAll_1 ?_
  refine lv_iconst (v := nI 0) hx hb dX0_bestOfAll_4 (by decide +kernel) ?_
  refine q_callV (As := [.int (nI 0)]) (wc := rowW cA (ad 28) (ad 58) 6 (g 28)) (w1 := rowW cA (ad 28) (ad 58) 6 (fun _ => nI 0)) (ws1 := gpW cA ad (gs g 28 (fun _ => nI 0)) z) hx hb hml hown hT hK hP hD hS hA (c_X3_fill l D cA (ad 28) (ad 58) 6 (g 28) (nI 0) (by omega)) k_X3_fill kl_X0_60 (q0 := 0) rfl rfl rfl [9, 10] rfl rfl rfl rfl hl rfl rfl (Nat.le_of_ble_eq_true rfl) ⟨⟨rfl, rfl⟩, Nat.le_of_ble_eq_true rfl, Nat.le_of_ble_eq_true rfl⟩ ⟨Nat.zero_le _, Nat.zero_le _⟩ dX0_bestOfAll_5 (fun H locs hP hD hS => ?_)
  obtain ⟨nF5_28, enF5_28⟩ : ∃ y : Nat → Int32, y = (fun _ => nI 0) := ⟨_, rfl⟩
  have hP : va_P D vwCl (gpW cA ad (gs g 28 nF5_28) z) H := by rw [enF5_28]; exact hP
  have hD : va_D A (gpW cA ad (gs g 28 nF5_28) z) := by rw [enF5_28]; exact hD
  refine lv_aload_n hx hb dX0_bestOfAll_8 rfl (lv_at hl 0 rfl) ?_
  refine q_callIW (As := []) (r := wOf (groT nF5_28) (g 25) (z 3)) (w1 := gpW cA ad (gs g 28 nF5_28) z) hx hb hml hown hT hK hP hD hS hA (c_X0_worthOfGrouping l D cA ad (gs g 28 nF5_28) z (show (z 3) ≤ 6 by omega)) k_X0_worthOfGrouping kl_X0_63 (q0 := 0) rfl rfl rfl ((gpW_adr _ _ _ _).trans (gpW_adr _ _ _ _).symm) hl rfl rfl (Nat.le_of_ble_eq_true rfl) ⟨⟨rfl, rfl⟩, Nat.le_of_ble_eq_true rfl, Nat.le_of_ble_eq_true rfl⟩ ⟨Nat.zero_le _, Nat.zero_le _⟩ dX0_bestOfAll_9 (fun H locs hP hD hS => ?_)
  refine lv_istore_n (lv' := [(1, .int (wOf (groT nF5_28) (g 25) (z 3))), (0, .ref (ad 73))]) hx hb dX0_bestOfAll_12 rfl hl (by decide) rfl (fun ls hl => ?_)
  refine lv_iconst (v := nI 1) hx hb dX0_bestOfAll_13 (by decide +kernel) ?_
  refine lv_istore_n (lv' := [(2, .int (nI 1)), (1, .int (wOf (groT nF5_28) (g 25) (z 3))), (0, .ref (ad 73))]) hx hb dX0_bestOfAll_14 rfl hl (by decide) rfl (fun ls hl => ?_)
  rw [enF5_28] at hP hD
  rw [enF5_28] at hl
  have e9_0 : (nI 1) = (nI (0 + 1)) := by first | with_reducible rfl | (rfl)
  have hl9 : lv_has ls 3 [(0, .ref (ad 73)), (1, .int (wOf (groT (fun _ => nI 0)) (g 25) (z 3))), (2, .int (nI (0 + 1)))] := lv_cast (l := [(0, .ref (ad 73)), (1, .int (wOf (groT (fun _ => nI 0)) (g 25) (z 3))), (2, .int (nI 1))]) (lv_sub hl [2, 1, 0] rfl) (congrArg (fun v9 : Int32 => ([(0, .ref (ad 73)), (1, .int (wOf (groT (fun _ => nI 0)) (g 25) (z 3))), (2, .int v9)] : List (Nat × Value))) e9_0)
  exact zqL15 (203) 0 (fun _ => nI 0) (wOf (groT (fun _ => nI 0)) (g 25) (z 3)) (by omega) (by omega) ⟨rfl, rfl⟩ _ _ _ hP hD hS hl9
end
