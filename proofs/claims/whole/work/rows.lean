section
-- ===== PART A: goes FIRST, ahead of the names: the tables' words, and 'selects' of the private methods out of them =====
/-- a private method of a class that the tables say can be made, by its rows of tables_1 -/
def lw_okq (q : MethodName × Nat) : Prop := (q.1.cls ≠ "java/lang/invoke/MethodHandle" ∧ q.1.cls ≠ "java/lang/invoke/VarHandle") ∧ Cond.instantiable q.1.cls q.2 ∈ tables_1 ∧ Cond.privateMethod q.1 ∈ tables_1 ∧ Cond.instanceMethod q.1 ∈ tables_1
theorem lw_p0 : lw_okq (⟨"PlayCompany", "actorAt", "(I)LPlayCompany$Actor;"⟩, 14) := ⟨⟨by decide +kernel, by decide +kernel⟩, List.mem_of_getElem? (i := 24) (by decide +kernel), List.mem_of_getElem? (i := 257) (by decide +kernel), List.mem_of_getElem? (i := 258) (by decide +kernel)⟩
theorem lw_p1 : lw_okq (⟨"PlayCompany", "playAt", "(I)LPlayCompany$Play;"⟩, 14) := ⟨⟨by decide +kernel, by decide +kernel⟩, List.mem_of_getElem? (i := 24) (by decide +kernel), List.mem_of_getElem? (i := 320) (by decide +kernel), List.mem_of_getElem? (i := 321) (by decide +kernel)⟩
theorem lw_p2 : lw_okq (⟨"PlayCompany$CastFinder", "begin", "()V"⟩, 4) := ⟨⟨by decide +kernel, by decide +kernel⟩, List.mem_of_getElem? (i := 36) (by decide +kernel), List.mem_of_getElem? (i := 374) (by decide +kernel), List.mem_of_getElem? (i := 375) (by decide +kernel)⟩
theorem lw_p3 : lw_okq (⟨"PlayCompany$CastFinder", "offer", "(LPlayCompany$Play;LPlayCompany$Actor;IJI)V"⟩, 4) := ⟨⟨by decide +kernel, by decide +kernel⟩, List.mem_of_getElem? (i := 36) (by decide +kernel), List.mem_of_getElem? (i := 382) (by decide +kernel), List.mem_of_getElem? (i := 383) (by decide +kernel)⟩
theorem lw_p4 : lw_okq (⟨"PlayCompany$CastFinder", "listParts", "(LPlayCompany$Play;IIJ)V"⟩, 4) := ⟨⟨by decide +kernel, by decide +kernel⟩, List.mem_of_getElem? (i := 36) (by decide +kernel), List.mem_of_getElem? (i := 387) (by decide +kernel), List.mem_of_getElem? (i := 388) (by decide +kernel)⟩
theorem lw_p5 : lw_okq (⟨"PlayCompany$CastFinder", "giveParts", "(I)V"⟩, 4) := ⟨⟨by decide +kernel, by decide +kernel⟩, List.mem_of_getElem? (i := 36) (by decide +kernel), List.mem_of_getElem? (i := 400) (by decide +kernel), List.mem_of_getElem? (i := 401) (by decide +kernel)⟩
theorem lw_p6 : lw_okq (⟨"PlayCompany$WeekPlanner", "gather", "([LPlayCompany$Play;I)V"⟩, 5) := ⟨⟨by decide +kernel, by decide +kernel⟩, List.mem_of_getElem? (i := 57) (by decide +kernel), List.mem_of_getElem? (i := 447) (by decide +kernel), List.mem_of_getElem? (i := 448) (by decide +kernel)⟩
theorem lw_p7 : lw_okq (⟨"PlayCompany$WeekPlanner", "weighChanges", "([LPlayCompany$Play;)V"⟩, 5) := ⟨⟨by decide +kernel, by decide +kernel⟩, List.mem_of_getElem? (i := 57) (by decide +kernel), List.mem_of_getElem? (i := 451) (by decide +kernel), List.mem_of_getElem? (i := 452) (by decide +kernel)⟩
theorem lw_p8 : lw_okq (⟨"PlayCompany$WeekPlanner", "leastBehind", "(II)I"⟩, 5) := ⟨⟨by decide +kernel, by decide +kernel⟩, List.mem_of_getElem? (i := 57) (by decide +kernel), List.mem_of_getElem? (i := 464) (by decide +kernel), List.mem_of_getElem? (i := 465) (by decide +kernel)⟩
theorem lw_p9 : lw_okq (⟨"PlayCompany$WeekPlanner", "onward", "(III)I"⟩, 5) := ⟨⟨by decide +kernel, by decide +kernel⟩, List.mem_of_getElem? (i := 57) (by decide +kernel), List.mem_of_getElem? (i := 469) (by decide +kernel), List.mem_of_getElem? (i := 470) (by decide +kernel)⟩
theorem lw_p10 : lw_okq (⟨"PlayCompany$WeekPlanner", "follow", "([LPlayCompany$Play;I)I"⟩, 5) := ⟨⟨by decide +kernel, by decide +kernel⟩, List.mem_of_getElem? (i := 57) (by decide +kernel), List.mem_of_getElem? (i := 473) (by decide +kernel), List.mem_of_getElem? (i := 474) (by decide +kernel)⟩
theorem lw_p11 : lw_okq (⟨"PlayCompany$WeekPlanner", "bestNext", "(II)I"⟩, 5) := ⟨⟨by decide +kernel, by decide +kernel⟩, List.mem_of_getElem? (i := 57) (by decide +kernel), List.mem_of_getElem? (i := 477) (by decide +kernel), List.mem_of_getElem? (i := 478) (by decide +kernel)⟩
theorem lw_p12 : lw_okq (⟨"PlayCompany", "firstOf", "(I)I"⟩, 14) := ⟨⟨by decide +kernel, by decide +kernel⟩, List.mem_of_getElem? (i := 24) (by decide +kernel), List.mem_of_getElem? (i := 490) (by decide +kernel), List.mem_of_getElem? (i := 491) (by decide +kernel)⟩
theorem lw_p13 : lw_okq (⟨"PlayCompany", "minutesOf", "(I)I"⟩, 14) := ⟨⟨by decide +kernel, by decide +kernel⟩, List.mem_of_getElem? (i := 24) (by decide +kernel), List.mem_of_getElem? (i := 494) (by decide +kernel), List.mem_of_getElem? (i := 495) (by decide +kernel)⟩
theorem lw_p14 : lw_okq (⟨"PlayCompany", "takingsOf", "(I)I"⟩, 14) := ⟨⟨by decide +kernel, by decide +kernel⟩, List.mem_of_getElem? (i := 24) (by decide +kernel), List.mem_of_getElem? (i := 498) (by decide +kernel), List.mem_of_getElem? (i := 499) (by decide +kernel)⟩
theorem lw_p15 : lw_okq (⟨"PlayCompany", "put", "(I)V"⟩, 14) := ⟨⟨by decide +kernel, by decide +kernel⟩, List.mem_of_getElem? (i := 24) (by decide +kernel), List.mem_of_getElem? (i := 537) (by decide +kernel), List.mem_of_getElem? (i := 538) (by decide +kernel)⟩
def lw_privs_1 : List (MethodName × Nat) := [(⟨"PlayCompany", "actorAt", "(I)LPlayCompany$Actor;"⟩, 14), (⟨"PlayCompany", "playAt", "(I)LPlayCompany$Play;"⟩, 14), (⟨"PlayCompany$CastFinder", "begin", "()V"⟩, 4), (⟨"PlayCompany$CastFinder", "offer", "(LPlayCompany$Play;LPlayCompany$Actor;IJI)V"⟩, 4), (⟨"PlayCompany$CastFinder", "listParts", "(LPlayCompany$Play;IIJ)V"⟩, 4), (⟨"PlayCompany$CastFinder", "giveParts", "(I)V"⟩, 4), (⟨"PlayCompany$WeekPlanner", "gather", "([LPlayCompany$Play;I)V"⟩, 5), (⟨"PlayCompany$WeekPlanner", "weighChanges", "([LPlayCompany$Play;)V"⟩, 5), (⟨"PlayCompany$WeekPlanner", "leastBehind", "(II)I"⟩, 5), (⟨"PlayCompany$WeekPlanner", "onward", "(III)I"⟩, 5), (⟨"PlayCompany$WeekPlanner", "follow", "([LPlayCompany$Play;I)I"⟩, 5), (⟨"PlayCompany$WeekPlanner", "bestNext", "(II)I"⟩, 5), (⟨"PlayCompany", "firstOf", "(I)I"⟩, 14), (⟨"PlayCompany", "minutesOf", "(I)I"⟩, 14), (⟨"PlayCompany", "takingsOf", "(I)I"⟩, 14), (⟨"PlayCompany", "put", "(I)V"⟩, 14)]
theorem lw_r1 : ∀ q ∈ lw_privs_1, lw_okq q := List.forall_mem_cons.mpr ⟨lw_p0, List.forall_mem_cons.mpr ⟨lw_p1, List.forall_mem_cons.mpr ⟨lw_p2, List.forall_mem_cons.mpr ⟨lw_p3, List.forall_mem_cons.mpr ⟨lw_p4, List.forall_mem_cons.mpr ⟨lw_p5, List.forall_mem_cons.mpr ⟨lw_p6, List.forall_mem_cons.mpr ⟨lw_p7, List.forall_mem_cons.mpr ⟨lw_p8, List.forall_mem_cons.mpr ⟨lw_p9, List.forall_mem_cons.mpr ⟨lw_p10, List.forall_mem_cons.mpr ⟨lw_p11, List.forall_mem_cons.mpr ⟨lw_p12, List.forall_mem_cons.mpr ⟨lw_p13, List.forall_mem_cons.mpr ⟨lw_p14, List.forall_mem_cons.mpr ⟨lw_p15, fun _ h => absurd h List.not_mem_nil⟩⟩⟩⟩⟩⟩⟩⟩⟩⟩⟩⟩⟩⟩⟩⟩
theorem lw_p16 : lw_okq (⟨"PlayCompany$TermReader", "scan", "([BI)V"⟩, 7) := ⟨⟨by decide +kernel, by decide +kernel⟩, List.mem_of_getElem? (i := 104) (by decide +kernel), List.mem_of_getElem? (i := 553) (by decide +kernel), List.mem_of_getElem? (i := 554) (by decide +kernel)⟩
theorem lw_p17 : lw_okq (⟨"PlayCompany$TermReader", "addToken", "([BII)V"⟩, 7) := ⟨⟨by decide +kernel, by decide +kernel⟩, List.mem_of_getElem? (i := 104) (by decide +kernel), List.mem_of_getElem? (i := 570) (by decide +kernel), List.mem_of_getElem? (i := 571) (by decide +kernel)⟩
theorem lw_p18 : lw_okq (⟨"PlayCompany$TermReader", "readTerm", "()Z"⟩, 7) := ⟨⟨by decide +kernel, by decide +kernel⟩, List.mem_of_getElem? (i := 104) (by decide +kernel), List.mem_of_getElem? (i := 644) (by decide +kernel), List.mem_of_getElem? (i := 645) (by decide +kernel)⟩
theorem lw_p19 : lw_okq (⟨"PlayCompany$TermReader", "take", "(LPlayCompany$Token;)Z"⟩, 7) := ⟨⟨by decide +kernel, by decide +kernel⟩, List.mem_of_getElem? (i := 104) (by decide +kernel), List.mem_of_getElem? (i := 661) (by decide +kernel), List.mem_of_getElem? (i := 662) (by decide +kernel)⟩
theorem lw_p20 : lw_okq (⟨"PlayCompany$TermReader", "readAnyOf", "(I)Z"⟩, 7) := ⟨⟨by decide +kernel, by decide +kernel⟩, List.mem_of_getElem? (i := 104) (by decide +kernel), List.mem_of_getElem? (i := 671) (by decide +kernel), List.mem_of_getElem? (i := 672) (by decide +kernel)⟩
theorem lw_p21 : lw_okq (⟨"PlayCompany$TermReader", "readAllOf", "(I)Z"⟩, 7) := ⟨⟨by decide +kernel, by decide +kernel⟩, List.mem_of_getElem? (i := 104) (by decide +kernel), List.mem_of_getElem? (i := 675) (by decide +kernel), List.mem_of_getElem? (i := 676) (by decide +kernel)⟩
theorem lw_p22 : lw_okq (⟨"PlayCompany$TermReader", "readPart", "(I)Z"⟩, 7) := ⟨⟨by decide +kernel, by decide +kernel⟩, List.mem_of_getElem? (i := 104) (by decide +kernel), List.mem_of_getElem? (i := 679) (by decide +kernel), List.mem_of_getElem? (i := 680) (by decide +kernel)⟩
theorem lw_p23 : lw_okq (⟨"PlayCompany$TermReader", "readSimple", "()Z"⟩, 7) := ⟨⟨by decide +kernel, by decide +kernel⟩, List.mem_of_getElem? (i := 104) (by decide +kernel), List.mem_of_getElem? (i := 687) (by decide +kernel), List.mem_of_getElem? (i := 688) (by decide +kernel)⟩
theorem lw_p24 : lw_okq (⟨"PlayCompany", "holds", "(III)Z"⟩, 14) := ⟨⟨by decide +kernel, by decide +kernel⟩, List.mem_of_getElem? (i := 24) (by decide +kernel), List.mem_of_getElem? (i := 717) (by decide +kernel), List.mem_of_getElem? (i := 718) (by decide +kernel)⟩
theorem lw_p25 : lw_okq (⟨"PlayCompany", "comparisonHolds", "(III)Z"⟩, 14) := ⟨⟨by decide +kernel, by decide +kernel⟩, List.mem_of_getElem? (i := 24) (by decide +kernel), List.mem_of_getElem? (i := 729) (by decide +kernel), List.mem_of_getElem? (i := 730) (by decide +kernel)⟩
theorem lw_p26 : lw_okq (⟨"PlayCompany", "measure", "(III)I"⟩, 14) := ⟨⟨by decide +kernel, by decide +kernel⟩, List.mem_of_getElem? (i := 24) (by decide +kernel), List.mem_of_getElem? (i := 736) (by decide +kernel), List.mem_of_getElem? (i := 737) (by decide +kernel)⟩
theorem lw_p27 : lw_okq (⟨"PlayCompany", "rolesOf", "(I)I"⟩, 14) := ⟨⟨by decide +kernel, by decide +kernel⟩, List.mem_of_getElem? (i := 24) (by decide +kernel), List.mem_of_getElem? (i := 754) (by decide +kernel), List.mem_of_getElem? (i := 755) (by decide +kernel)⟩
theorem lw_p28 : lw_okq (⟨"PlayCompany", "keeps", "(II)Z"⟩, 14) := ⟨⟨by decide +kernel, by decide +kernel⟩, List.mem_of_getElem? (i := 24) (by decide +kernel), List.mem_of_getElem? (i := 765) (by decide +kernel), List.mem_of_getElem? (i := 766) (by decide +kernel)⟩
theorem lw_p29 : lw_okq (⟨"PlayCompany", "countIn", "()I"⟩, 14) := ⟨⟨by decide +kernel, by decide +kernel⟩, List.mem_of_getElem? (i := 24) (by decide +kernel), List.mem_of_getElem? (i := 775) (by decide +kernel), List.mem_of_getElem? (i := 776) (by decide +kernel)⟩
theorem lw_p30 : lw_okq (⟨"java/lang/Throwable", "fillInStackTrace", "(I)Ljava/lang/Throwable;"⟩, 6) := ⟨⟨by decide +kernel, by decide +kernel⟩, List.mem_of_getElem? (i := 824) (by decide +kernel), List.mem_of_getElem? (i := 822) (by decide +kernel), List.mem_of_getElem? (i := 823) (by decide +kernel)⟩
theorem lw_p31 : lw_okq (⟨"PlayCompany", "payOf", "(II)I"⟩, 14) := ⟨⟨by decide +kernel, by decide +kernel⟩, List.mem_of_getElem? (i := 24) (by decide +kernel), List.mem_of_getElem? (i := 860) (by decide +kernel), List.mem_of_getElem? (i := 861) (by decide +kernel)⟩
def lw_privs_2 : List (MethodName × Nat) := [(⟨"PlayCompany$TermReader", "scan", "([BI)V"⟩, 7), (⟨"PlayCompany$TermReader", "addToken", "([BII)V"⟩, 7), (⟨"PlayCompany$TermReader", "readTerm", "()Z"⟩, 7), (⟨"PlayCompany$TermReader", "take", "(LPlayCompany$Token;)Z"⟩, 7), (⟨"PlayCompany$TermReader", "readAnyOf", "(I)Z"⟩, 7), (⟨"PlayCompany$TermReader", "readAllOf", "(I)Z"⟩, 7), (⟨"PlayCompany$TermReader", "readPart", "(I)Z"⟩, 7), (⟨"PlayCompany$TermReader", "readSimple", "()Z"⟩, 7), (⟨"PlayCompany", "holds", "(III)Z"⟩, 14), (⟨"PlayCompany", "comparisonHolds", "(III)Z"⟩, 14), (⟨"PlayCompany", "measure", "(III)I"⟩, 14), (⟨"PlayCompany", "rolesOf", "(I)I"⟩, 14), (⟨"PlayCompany", "keeps", "(II)Z"⟩, 14), (⟨"PlayCompany", "countIn", "()I"⟩, 14), (⟨"java/lang/Throwable", "fillInStackTrace", "(I)Ljava/lang/Throwable;"⟩, 6), (⟨"PlayCompany", "payOf", "(II)I"⟩, 14)]
theorem lw_r2 : ∀ q ∈ lw_privs_2, lw_okq q := List.forall_mem_cons.mpr ⟨lw_p16, List.forall_mem_cons.mpr ⟨lw_p17, List.forall_mem_cons.mpr ⟨lw_p18, List.forall_mem_cons.mpr ⟨lw_p19, List.forall_mem_cons.mpr ⟨lw_p20, List.forall_mem_cons.mpr ⟨lw_p21, List.forall_mem_cons.mpr ⟨lw_p22, List.forall_mem_cons.mpr ⟨lw_p23, List.forall_mem_cons.mpr ⟨lw_p24, List.forall_mem_cons.mpr ⟨lw_p25, List.forall_mem_cons.mpr ⟨lw_p26, List.forall_mem_cons.mpr ⟨lw_p27, List.forall_mem_cons.mpr ⟨lw_p28, List.forall_mem_cons.mpr ⟨lw_p29, List.forall_mem_cons.mpr ⟨lw_p30, List.forall_mem_cons.mpr ⟨lw_p31, fun _ h => absurd h List.not_mem_nil⟩⟩⟩⟩⟩⟩⟩⟩⟩⟩⟩⟩⟩⟩⟩⟩
theorem lw_p32 : lw_okq (⟨"PlayCompanyModel", "isActor", "(I)Z"⟩, 61) := ⟨⟨by decide +kernel, by decide +kernel⟩, List.mem_of_getElem? (i := 868) (by decide +kernel), List.mem_of_getElem? (i := 1072) (by decide +kernel), List.mem_of_getElem? (i := 1073) (by decide +kernel)⟩
theorem lw_p33 : lw_okq (⟨"PlayCompanyModel", "isPlay", "(I)Z"⟩, 61) := ⟨⟨by decide +kernel, by decide +kernel⟩, List.mem_of_getElem? (i := 868) (by decide +kernel), List.mem_of_getElem? (i := 1088) (by decide +kernel), List.mem_of_getElem? (i := 1089) (by decide +kernel)⟩
theorem lw_p34 : lw_okq (⟨"PlayCompanyModel", "isRole", "(II)Z"⟩, 61) := ⟨⟨by decide +kernel, by decide +kernel⟩, List.mem_of_getElem? (i := 868) (by decide +kernel), List.mem_of_getElem? (i := 1096) (by decide +kernel), List.mem_of_getElem? (i := 1097) (by decide +kernel)⟩
theorem lw_p35 : lw_okq (⟨"PlayCompanyModel", "isAble", "(III)Z"⟩, 61) := ⟨⟨by decide +kernel, by decide +kernel⟩, List.mem_of_getElem? (i := 868) (by decide +kernel), List.mem_of_getElem? (i := 1108) (by decide +kernel), List.mem_of_getElem? (i := 1109) (by decide +kernel)⟩
theorem lw_p36 : lw_okq (⟨"PlayCompanyModel", "forgetsOld", "()V"⟩, 61) := ⟨⟨by decide +kernel, by decide +kernel⟩, List.mem_of_getElem? (i := 868) (by decide +kernel), List.mem_of_getElem? (i := 1116) (by decide +kernel), List.mem_of_getElem? (i := 1117) (by decide +kernel)⟩
theorem lw_p37 : lw_okq (⟨"PlayCompanyModel", "casts", "(I)Z"⟩, 61) := ⟨⟨by decide +kernel, by decide +kernel⟩, List.mem_of_getElem? (i := 868) (by decide +kernel), List.mem_of_getElem? (i := 1120) (by decide +kernel), List.mem_of_getElem? (i := 1121) (by decide +kernel)⟩
theorem lw_p38 : lw_okq (⟨"PlayCompanyModel", "finds", "(I)Z"⟩, 61) := ⟨⟨by decide +kernel, by decide +kernel⟩, List.mem_of_getElem? (i := 868) (by decide +kernel), List.mem_of_getElem? (i := 1124) (by decide +kernel), List.mem_of_getElem? (i := 1125) (by decide +kernel)⟩
theorem lw_p39 : lw_okq (⟨"PlayCompanyModel", "works", "(I)V"⟩, 61) := ⟨⟨by decide +kernel, by decide +kernel⟩, List.mem_of_getElem? (i := 868) (by decide +kernel), List.mem_of_getElem? (i := 1128) (by decide +kernel), List.mem_of_getElem? (i := 1129) (by decide +kernel)⟩
theorem lw_p40 : lw_okq (⟨"PlayCompanyModel", "goesOn", "(II)V"⟩, 61) := ⟨⟨by decide +kernel, by decide +kernel⟩, List.mem_of_getElem? (i := 868) (by decide +kernel), List.mem_of_getElem? (i := 1132) (by decide +kernel), List.mem_of_getElem? (i := 1133) (by decide +kernel)⟩
theorem lw_p41 : lw_okq (⟨"PlayCompanyModel", "mayHave", "(III)Z"⟩, 61) := ⟨⟨by decide +kernel, by decide +kernel⟩, List.mem_of_getElem? (i := 868) (by decide +kernel), List.mem_of_getElem? (i := 1136) (by decide +kernel), List.mem_of_getElem? (i := 1137) (by decide +kernel)⟩
theorem lw_p42 : lw_okq (⟨"PlayCompanyModel", "change", "(II)I"⟩, 61) := ⟨⟨by decide +kernel, by decide +kernel⟩, List.mem_of_getElem? (i := 868) (by decide +kernel), List.mem_of_getElem? (i := 1140) (by decide +kernel), List.mem_of_getElem? (i := 1141) (by decide +kernel)⟩
theorem lw_p43 : lw_okq (⟨"PlayCompanyModel", "isGood", "(II)Z"⟩, 61) := ⟨⟨by decide +kernel, by decide +kernel⟩, List.mem_of_getElem? (i := 868) (by decide +kernel), List.mem_of_getElem? (i := 1152) (by decide +kernel), List.mem_of_getElem? (i := 1153) (by decide +kernel)⟩
theorem lw_p44 : lw_okq (⟨"PlayCompanyModel", "hands", "(II)I"⟩, 61) := ⟨⟨by decide +kernel, by decide +kernel⟩, List.mem_of_getElem? (i := 868) (by decide +kernel), List.mem_of_getElem? (i := 1156) (by decide +kernel), List.mem_of_getElem? (i := 1157) (by decide +kernel)⟩
theorem lw_p45 : lw_okq (⟨"PlayCompanyModel", "isAsGood", "(I)Z"⟩, 61) := ⟨⟨by decide +kernel, by decide +kernel⟩, List.mem_of_getElem? (i := 868) (by decide +kernel), List.mem_of_getElem? (i := 1161) (by decide +kernel), List.mem_of_getElem? (i := 1162) (by decide +kernel)⟩
theorem lw_p46 : lw_okq (⟨"PlayCompanyModel", "takes", "(I)V"⟩, 61) := ⟨⟨by decide +kernel, by decide +kernel⟩, List.mem_of_getElem? (i := 868) (by decide +kernel), List.mem_of_getElem? (i := 1165) (by decide +kernel), List.mem_of_getElem? (i := 1166) (by decide +kernel)⟩
theorem lw_p47 : lw_okq (⟨"PlayCompanyModel", "isPlayable", "(I)Z"⟩, 61) := ⟨⟨by decide +kernel, by decide +kernel⟩, List.mem_of_getElem? (i := 868) (by decide +kernel), List.mem_of_getElem? (i := 1181) (by decide +kernel), List.mem_of_getElem? (i := 1182) (by decide +kernel)⟩
def lw_privs_3 : List (MethodName × Nat) := [(⟨"PlayCompanyModel", "isActor", "(I)Z"⟩, 61), (⟨"PlayCompanyModel", "isPlay", "(I)Z"⟩, 61), (⟨"PlayCompanyModel", "isRole", "(II)Z"⟩, 61), (⟨"PlayCompanyModel", "isAble", "(III)Z"⟩, 61), (⟨"PlayCompanyModel", "forgetsOld", "()V"⟩, 61), (⟨"PlayCompanyModel", "casts", "(I)Z"⟩, 61), (⟨"PlayCompanyModel", "finds", "(I)Z"⟩, 61), (⟨"PlayCompanyModel", "works", "(I)V"⟩, 61), (⟨"PlayCompanyModel", "goesOn", "(II)V"⟩, 61), (⟨"PlayCompanyModel", "mayHave", "(III)Z"⟩, 61), (⟨"PlayCompanyModel", "change", "(II)I"⟩, 61), (⟨"PlayCompanyModel", "isGood", "(II)Z"⟩, 61), (⟨"PlayCompanyModel", "hands", "(II)I"⟩, 61), (⟨"PlayCompanyModel", "isAsGood", "(I)Z"⟩, 61), (⟨"PlayCompanyModel", "takes", "(I)V"⟩, 61), (⟨"PlayCompanyModel", "isPlayable", "(I)Z"⟩, 61)]
theorem lw_r3 : ∀ q ∈ lw_privs_3, lw_okq q := List.forall_mem_cons.mpr ⟨lw_p32, List.forall_mem_cons.mpr ⟨lw_p33, List.forall_mem_cons.mpr ⟨lw_p34, List.forall_mem_cons.mpr ⟨lw_p35, List.forall_mem_cons.mpr ⟨lw_p36, List.forall_mem_cons.mpr ⟨lw_p37, List.forall_mem_cons.mpr ⟨lw_p38, List.forall_mem_cons.mpr ⟨lw_p39, List.forall_mem_cons.mpr ⟨lw_p40, List.forall_mem_cons.mpr ⟨lw_p41, List.forall_mem_cons.mpr ⟨lw_p42, List.forall_mem_cons.mpr ⟨lw_p43, List.forall_mem_cons.mpr ⟨lw_p44, List.forall_mem_cons.mpr ⟨lw_p45, List.forall_mem_cons.mpr ⟨lw_p46, List.forall_mem_cons.mpr ⟨lw_p47, fun _ h => absurd h List.not_mem_nil⟩⟩⟩⟩⟩⟩⟩⟩⟩⟩⟩⟩⟩⟩⟩⟩
theorem lw_p48 : lw_okq (⟨"PlayCompanyModel", "tries", "(IIII)V"⟩, 61) := ⟨⟨by decide +kernel, by decide +kernel⟩, List.mem_of_getElem? (i := 868) (by decide +kernel), List.mem_of_getElem? (i := 1190) (by decide +kernel), List.mem_of_getElem? (i := 1191) (by decide +kernel)⟩
theorem lw_p49 : lw_okq (⟨"PlayCompanyModel", "work", "(II)I"⟩, 61) := ⟨⟨by decide +kernel, by decide +kernel⟩, List.mem_of_getElem? (i := 868) (by decide +kernel), List.mem_of_getElem? (i := 1194) (by decide +kernel), List.mem_of_getElem? (i := 1195) (by decide +kernel)⟩
theorem lw_p50 : lw_okq (⟨"PlayCompanyModel", "fills", "(IIIII)V"⟩, 61) := ⟨⟨by decide +kernel, by decide +kernel⟩, List.mem_of_getElem? (i := 868) (by decide +kernel), List.mem_of_getElem? (i := 1207) (by decide +kernel), List.mem_of_getElem? (i := 1208) (by decide +kernel)⟩
theorem lw_p51 : lw_okq (⟨"PlayCompanyModel", "holder", "(III)I"⟩, 61) := ⟨⟨by decide +kernel, by decide +kernel⟩, List.mem_of_getElem? (i := 868) (by decide +kernel), List.mem_of_getElem? (i := 1219) (by decide +kernel), List.mem_of_getElem? (i := 1220) (by decide +kernel)⟩
theorem lw_p52 : lw_okq (⟨"PlayCompanyModel", "starts", "([BII)V"⟩, 61) := ⟨⟨by decide +kernel, by decide +kernel⟩, List.mem_of_getElem? (i := 868) (by decide +kernel), List.mem_of_getElem? (i := 1239) (by decide +kernel), List.mem_of_getElem? (i := 1240) (by decide +kernel)⟩
theorem lw_p53 : lw_okq (⟨"PlayCompanyModel", "next", "()V"⟩, 61) := ⟨⟨by decide +kernel, by decide +kernel⟩, List.mem_of_getElem? (i := 868) (by decide +kernel), List.mem_of_getElem? (i := 1243) (by decide +kernel), List.mem_of_getElem? (i := 1244) (by decide +kernel)⟩
theorem lw_p54 : lw_okq (⟨"PlayCompanyModel", "see", "(I)I"⟩, 61) := ⟨⟨by decide +kernel, by decide +kernel⟩, List.mem_of_getElem? (i := 868) (by decide +kernel), List.mem_of_getElem? (i := 1250) (by decide +kernel), List.mem_of_getElem? (i := 1251) (by decide +kernel)⟩
theorem lw_p55 : lw_okq (⟨"PlayCompanyModel", "word", "(II)I"⟩, 61) := ⟨⟨by decide +kernel, by decide +kernel⟩, List.mem_of_getElem? (i := 868) (by decide +kernel), List.mem_of_getElem? (i := 1254) (by decide +kernel), List.mem_of_getElem? (i := 1255) (by decide +kernel)⟩
theorem lw_p56 : lw_okq (⟨"PlayCompanyModel", "isLike", "(IILjava/lang/String;)Z"⟩, 61) := ⟨⟨by decide +kernel, by decide +kernel⟩, List.mem_of_getElem? (i := 868) (by decide +kernel), List.mem_of_getElem? (i := 1259) (by decide +kernel), List.mem_of_getElem? (i := 1260) (by decide +kernel)⟩
theorem lw_p57 : lw_okq (⟨"PlayCompanyModel", "term", "()V"⟩, 61) := ⟨⟨by decide +kernel, by decide +kernel⟩, List.mem_of_getElem? (i := 868) (by decide +kernel), List.mem_of_getElem? (i := 1281) (by decide +kernel), List.mem_of_getElem? (i := 1282) (by decide +kernel)⟩
theorem lw_p58 : lw_okq (⟨"PlayCompanyModel", "fails", "(I)V"⟩, 61) := ⟨⟨by decide +kernel, by decide +kernel⟩, List.mem_of_getElem? (i := 868) (by decide +kernel), List.mem_of_getElem? (i := 1285) (by decide +kernel), List.mem_of_getElem? (i := 1286) (by decide +kernel)⟩
theorem lw_p59 : lw_okq (⟨"PlayCompanyModel", "wants", "(I)V"⟩, 61) := ⟨⟨by decide +kernel, by decide +kernel⟩, List.mem_of_getElem? (i := 868) (by decide +kernel), List.mem_of_getElem? (i := 1289) (by decide +kernel), List.mem_of_getElem? (i := 1290) (by decide +kernel)⟩
theorem lw_p60 : lw_okq (⟨"PlayCompanyModel", "either", "(I)Z"⟩, 61) := ⟨⟨by decide +kernel, by decide +kernel⟩, List.mem_of_getElem? (i := 868) (by decide +kernel), List.mem_of_getElem? (i := 1293) (by decide +kernel), List.mem_of_getElem? (i := 1294) (by decide +kernel)⟩
theorem lw_p61 : lw_okq (⟨"PlayCompanyModel", "all", "(I)Z"⟩, 61) := ⟨⟨by decide +kernel, by decide +kernel⟩, List.mem_of_getElem? (i := 868) (by decide +kernel), List.mem_of_getElem? (i := 1297) (by decide +kernel), List.mem_of_getElem? (i := 1298) (by decide +kernel)⟩
theorem lw_p62 : lw_okq (⟨"PlayCompanyModel", "one", "(I)Z"⟩, 61) := ⟨⟨by decide +kernel, by decide +kernel⟩, List.mem_of_getElem? (i := 868) (by decide +kernel), List.mem_of_getElem? (i := 1301) (by decide +kernel), List.mem_of_getElem? (i := 1302) (by decide +kernel)⟩
theorem lw_p63 : lw_okq (⟨"PlayCompanyModel", "worth", "(I)J"⟩, 61) := ⟨⟨by decide +kernel, by decide +kernel⟩, List.mem_of_getElem? (i := 868) (by decide +kernel), List.mem_of_getElem? (i := 1305) (by decide +kernel), List.mem_of_getElem? (i := 1306) (by decide +kernel)⟩
def lw_privs_4 : List (MethodName × Nat) := [(⟨"PlayCompanyModel", "tries", "(IIII)V"⟩, 61), (⟨"PlayCompanyModel", "work", "(II)I"⟩, 61), (⟨"PlayCompanyModel", "fills", "(IIIII)V"⟩, 61), (⟨"PlayCompanyModel", "holder", "(III)I"⟩, 61), (⟨"PlayCompanyModel", "starts", "([BII)V"⟩, 61), (⟨"PlayCompanyModel", "next", "()V"⟩, 61), (⟨"PlayCompanyModel", "see", "(I)I"⟩, 61), (⟨"PlayCompanyModel", "word", "(II)I"⟩, 61), (⟨"PlayCompanyModel", "isLike", "(IILjava/lang/String;)Z"⟩, 61), (⟨"PlayCompanyModel", "term", "()V"⟩, 61), (⟨"PlayCompanyModel", "fails", "(I)V"⟩, 61), (⟨"PlayCompanyModel", "wants", "(I)V"⟩, 61), (⟨"PlayCompanyModel", "either", "(I)Z"⟩, 61), (⟨"PlayCompanyModel", "all", "(I)Z"⟩, 61), (⟨"PlayCompanyModel", "one", "(I)Z"⟩, 61), (⟨"PlayCompanyModel", "worth", "(I)J"⟩, 61)]
theorem lw_r4 : ∀ q ∈ lw_privs_4, lw_okq q := List.forall_mem_cons.mpr ⟨lw_p48, List.forall_mem_cons.mpr ⟨lw_p49, List.forall_mem_cons.mpr ⟨lw_p50, List.forall_mem_cons.mpr ⟨lw_p51, List.forall_mem_cons.mpr ⟨lw_p52, List.forall_mem_cons.mpr ⟨lw_p53, List.forall_mem_cons.mpr ⟨lw_p54, List.forall_mem_cons.mpr ⟨lw_p55, List.forall_mem_cons.mpr ⟨lw_p56, List.forall_mem_cons.mpr ⟨lw_p57, List.forall_mem_cons.mpr ⟨lw_p58, List.forall_mem_cons.mpr ⟨lw_p59, List.forall_mem_cons.mpr ⟨lw_p60, List.forall_mem_cons.mpr ⟨lw_p61, List.forall_mem_cons.mpr ⟨lw_p62, List.forall_mem_cons.mpr ⟨lw_p63, fun _ h => absurd h List.not_mem_nil⟩⟩⟩⟩⟩⟩⟩⟩⟩⟩⟩⟩⟩⟩⟩⟩
theorem lw_p64 : lw_okq (⟨"PlayCompanyModel", "greatest", "(I)I"⟩, 61) := ⟨⟨by decide +kernel, by decide +kernel⟩, List.mem_of_getElem? (i := 868) (by decide +kernel), List.mem_of_getElem? (i := 1314) (by decide +kernel), List.mem_of_getElem? (i := 1315) (by decide +kernel)⟩
theorem lw_p65 : lw_okq (⟨"PlayCompanyModel", "had", "(I)I"⟩, 61) := ⟨⟨by decide +kernel, by decide +kernel⟩, List.mem_of_getElem? (i := 868) (by decide +kernel), List.mem_of_getElem? (i := 1319) (by decide +kernel), List.mem_of_getElem? (i := 1320) (by decide +kernel)⟩
theorem lw_p66 : lw_okq (⟨"PlayCompanyModel", "holds", "(III)Z"⟩, 61) := ⟨⟨by decide +kernel, by decide +kernel⟩, List.mem_of_getElem? (i := 868) (by decide +kernel), List.mem_of_getElem? (i := 1327) (by decide +kernel), List.mem_of_getElem? (i := 1328) (by decide +kernel)⟩
theorem lw_p67 : lw_okq (⟨"PlayCompanyModel", "isKept", "(II)Z"⟩, 61) := ⟨⟨by decide +kernel, by decide +kernel⟩, List.mem_of_getElem? (i := 868) (by decide +kernel), List.mem_of_getElem? (i := 1335) (by decide +kernel), List.mem_of_getElem? (i := 1336) (by decide +kernel)⟩
theorem lw_p68 : lw_okq (⟨"PlayCompanyModel", "paid", "(II)I"⟩, 61) := ⟨⟨by decide +kernel, by decide +kernel⟩, List.mem_of_getElem? (i := 868) (by decide +kernel), List.mem_of_getElem? (i := 1343) (by decide +kernel), List.mem_of_getElem? (i := 1344) (by decide +kernel)⟩
def lw_privs_5 : List (MethodName × Nat) := [(⟨"PlayCompanyModel", "greatest", "(I)I"⟩, 61), (⟨"PlayCompanyModel", "had", "(I)I"⟩, 61), (⟨"PlayCompanyModel", "holds", "(III)Z"⟩, 61), (⟨"PlayCompanyModel", "isKept", "(II)Z"⟩, 61), (⟨"PlayCompanyModel", "paid", "(II)I"⟩, 61)]
theorem lw_r5 : ∀ q ∈ lw_privs_5, lw_okq q := List.forall_mem_cons.mpr ⟨lw_p64, List.forall_mem_cons.mpr ⟨lw_p65, List.forall_mem_cons.mpr ⟨lw_p66, List.forall_mem_cons.mpr ⟨lw_p67, List.forall_mem_cons.mpr ⟨lw_p68, fun _ h => absurd h List.not_mem_nil⟩⟩⟩⟩⟩
def lw_privs : List (MethodName × Nat) := lw_privs_1 ++ (lw_privs_2 ++ (lw_privs_3 ++ (lw_privs_4 ++ (lw_privs_5))))
def lw_tbl : List Cond := k2_sels lw_privs ++ tables_1
theorem lw_privs_ok : ∀ q ∈ lw_privs, lw_okq q := by
  show ∀ q ∈ lw_privs_1 ++ (lw_privs_2 ++ (lw_privs_3 ++ (lw_privs_4 ++ (lw_privs_5)))), lw_okq q
  exact List.forall_mem_append.mpr ⟨lw_r1, List.forall_mem_append.mpr ⟨lw_r2, List.forall_mem_append.mpr ⟨lw_r3, List.forall_mem_append.mpr ⟨lw_r4, lw_r5⟩⟩⟩⟩

/-! ===== BEGIN words of one list among another's, by their places ===== -/
theorem goodIn_r {big : List Cond} (ws : List Cond) (ps : List Nat) (hp : ws = ps.filterMap (fun i => big[i]?)) (h : ws.all goodWord = true) : GoodIn big ws := by
  intro w hw
  have h1 := List.all_eq_true.mp h w hw
  rw [hp] at hw
  obtain ⟨i, -, hi⟩ := List.mem_filterMap.mp hw
  have hm : w ∈ big := by first | exact List.mem_of_getElem? hi | exact List.getElem?_mem hi
  exact ⟨hm, good_of_word h1⟩
theorem goodIn_app {big a b : List Cond} (ha : GoodIn big a) (hb : GoodIn big b) : GoodIn big (a ++ b) := fun w h => (List.mem_append.mp h).elim (ha w) (hb w)
theorem goodIn_ca {big a b : List Cond} {c : Cond} (ha : GoodIn big (c :: a)) (hb : GoodIn big b) : GoodIn big (c :: (a ++ b)) := fun w h => (List.mem_cons.mp h).elim (fun e => ha w (List.mem_cons.mpr (Or.inl e))) (fun h => (List.mem_append.mp h).elim (fun h => ha w (List.mem_cons.mpr (Or.inr h))) (hb w))
theorem goodIn_sub {big ws : List Cond} (hm : ∀ w ∈ ws, w ∈ big) (h : ws.all goodWord = true) : GoodIn big ws := fun w hw => ⟨hm w hw, good_of_word (List.all_eq_true.mp h w hw)⟩
/-! ===== END ===== -/

/-! ===== BEGIN exceptions that leave a method, and their catching by the caller (launches without stack traces) ===== -/
section VXA
/-! The laws vx_back, vx_callV, vx_callS, vx_callSW, vx_throw0, vx_throwS follow proofs of the library, with one case more: JvmDerived/Free/Laws.lean (Back.of_free), Shelf42/LK1.lean (callV, callS), Shelf/KitTraced.lean (throwNew0V, throwNewS). -/
/-- where a method has thrown q: the class by its name, the cell, what was written, the world -/
def vx_T (XC : String → State → State → Prop) (st : State) (q : Addr) (t : State) (mc ms : Nat) (free : Addr → Prop) : Prop :=
  ∃ (E : String) (ce : Cell) (L : List Loc), XC E st t ∧ t.heap[q]? = some ce ∧ ce.vm = .none ∧ st.vm.findClass E = some ce.cls ∧ st.WarmedH t.vm ∧ st.sameButNew ({ t with vm := st.vm } : State) L mc ms ∧ ∀ z ∈ L, free z.base
def vx_Q (Qc : Array Value → State → Outcome → State → Prop) (XC : String → State → State → Prop) (mc ms : Nat) (free : Addr → Prop) : Array Value → State → Outcome → State → Prop := fun a st o t =>
  (Qc a st o t ∧ ∃ L, FrameEnd st o t L mc ms ∧ ∀ q ∈ L, free q.base) ∨ ∃ q, o = .threw q ∧ vx_T XC st q t mc ms free
/-- a callee that returns or throws -/
def vx_Met (l : Launch) (y : MethodName) (ws : List Cond) (rm : Room) (Pc : Array Value → State → Prop) (Qc : Array Value → State → Outcome → State → Prop) (XC : String → State → State → Prop) (mc ms : Nat) (free : Addr → Prop) : Prop :=
  MetFree l y (headSpec ws rm) Pc (fun _ _ _ _ _ => True) (vx_Q Qc XC mc ms free)
def vx_Post (XC : String → State → State → Prop) (mc ms : Nat) (free : Addr → Prop) : Pt → Array Value → Addr → Pt → Prop := fun A a q B =>
  ∃ (g : JFrame) (mk : MethodId) (t : State) (L : List Loc) (E : String) (ce : Cell), B.U.heap = t.heap ∧ B.U.vm = t.vm ∧ XC E (A.U.calling g mk a) t ∧ t.heap[q]? = some ce ∧ ce.vm = .none ∧ A.U.vm.findClass E = some ce.cls ∧ B.locs = A.locs ++ L ∧ (∀ z ∈ L, free z.base) ∧ B.cells = A.cells + mc ∧ B.slots = A.slots + ms
def vx_Back (l : Launch) (R : Room) (p : Program) (e : Env) (below : List Frame) (s : State) (sargs : Array Value) (y : MethodName) (len W9 : Nat)
    (Pre : Pt → Array Value → Prop) (Post : Pt → Array Value → Option Value → Pt → Prop) (PostX : Pt → Array Value → Addr → Pt → Prop) : Prop :=
  ∀ (m : MethodId) (meth : Method) (c : Code) (A : Pt) (g : JFrame) (ig : Instr) (mk : MethodId) (a : Array Value),
    Stand p l e R s m sargs below meth c A.U A.locs A.cells A.slots → g.method = m → g.locals.size = c.maxLocals → decode c.code g.pc = .ok (ig, len) →
    2 * g.monitorRoom + (g.stack.map fun v => v.category).sum ≤ W9 → A.U.methodNamed? y = some mk → Pre A a →
    (∃ (v : Option Value) (B : Pt), Stand p l e R s m sargs below meth c B.U B.locs B.cells B.slots ∧ Post A a v B ∧
      Steps p.tables e below (doInvoke e (A.U.setTop g) [] mk a).1 (B.U.setTop { g with pc := g.pc + len, stack := v.toList ++ g.stack })) ∨
    (∃ (q : Addr) (B : Pt), Stand p l e R s m sargs below meth c B.U B.locs B.cells B.slots ∧ PostX A a q B ∧
      Steps p.tables e below (doInvoke e (A.U.setTop g) [] mk a).1 ((B.U.setTop g).pushFrame (.throwing q)))
section Payer
variable {l : Launch} {R : Room} {p : Program} {e : Env} {below : List Frame} {s : State} {sargs : Array Value} {y : MethodName} {len W9 : Nat}
theorem vx_back {ws : List Cond} {rm : Room} {Pc : Array Value → State → Prop} {Qc : Array Value → State → Outcome → State → Prop} {XC : String → State → State → Prop} {mc ms : Nat} {free : Addr → Prop} {bytes : ByteArray} {maxL : Nat} {ret : Option FieldType}
    (hM : vx_Met l y ws rm Pc Qc XC mc ms free) (hblind : FrameBlind Pc) (hrc : rm.cells = mc) (hrs : rm.slots = ms)
    (hframes : rm.frames + 1 ≤ R.frames) (hlocals : W9 + (maxL + 11) + rm.locals ≤ R.locals)
    (hws : ∀ w ∈ ws, ∀ a' U, s.WarmedH U.vm → w.before a' U = true) (hcode : Cond.code y bytes maxL ret ∈ ws) (hinit : ∀ a' U, s.WarmedH U.vm → (Cond.initialized y.cls).before a' U = true) :
    vx_Back l R p e below s sargs y len W9 (PreOf R mc ms Pc) (PostOf Qc mc ms free) (vx_Post XC mc ms free) := by
  intro m meth c A g ig mk a X hg hsize hdg hW hn hp
  have h1 : (headSpec ws rm).pre.before a A.U = true := atoms_intro fun w hw => hws w hw _ _ X.warmed
  have h2 : (Cond.code y bytes maxL ret).before a A.U = true := hws _ hcode _ _ X.warmed
  have h3 : (Cond.initialized y.cls).before a A.U = true := hinit _ _ X.warmed
  have h4 : A.cells + (headSpec ws rm).room.cells ≤ R.cells := by rw [show (headSpec ws rm).room.cells = mc from hrc]; exact hp.1
  have h5 : A.slots + (headSpec ws rm).room.slots ≤ R.slots := by rw [show (headSpec ws rm).room.slots = ms from hrs]; exact hp.2.1
  have hPc : Pc a (A.U.calling g mk a) := hblind _ _ _ _ hp.2.2
  obtain ⟨U, Ls, c0, s0⟩ := A
  dsimp only [Pt.U, Pt.locs, Pt.cells, Pt.slots] at h1 h2 h3 h4 h5 X hn hPc ⊢
  obtain ⟨methY, cY, hmY, hcY, -, hlY, -, -, -, -⟩ := Cond.code_spec hn h2
  obtain ⟨kY, hkY, -⟩ := className_of_methodNamed hn
  have hinitY : kY.init = .initialized := Cond.initialized_spec (findClass_of_methodNamed hn) hkY h3
  have h : At U g.method c below := by rw [hg]; exact X.here
  have hlocals9 : W9 + (maxL + 11) + (headSpec ws rm).room.locals ≤ R.locals := hlocals
  have happ : (headSpec ws rm).appliesLoose y e.platform (U.calling g mk a) = true :=
    Spec.appliesLoose_calling (g := g) h hdg hn hkY hinitY
      (X.room_calling (g := g) (R' := (headSpec ws rm).room) hsize hmY hcY hframes (by rw [hlY]; omega) h4 h5) h1
  obtain ⟨mid, hmid⟩ := h.above
  have hfr : (U.setTop g).frames = (.java g :: mid) ++ below := by rw [State.frames_setTop' g h.top, hmid]; rfl
  obtain ⟨o, s₂, hsteps, -, hend, hq⟩ := Steps.callFree hM p X.admits X.cas X.clock (acts := []) hfr happ hPc trivial
  have hq' : vx_Q Qc XC mc ms free a (U.calling g mk a) o s₂ := hq
  rw [State.frames_setTop' g h.top] at hend
  obtain ⟨g₀, hg0⟩ := Option.isSome_iff_exists.mp h.top
  obtain ⟨r, hr⟩ := State.topJava?_eq_some.mp hg0
  have hr' : (({ U with heap := s₂.heap, slotsUsed := s₂.slotsUsed } : State).setVm s₂.vm).frames = .java g₀ :: r := hr
  rcases hq' with ⟨hqc, L, hfe, hL⟩ | ⟨q, rfl, E, ce, L, hx, hce, hcv, hcl, hW₂, hsm, hL⟩
  · obtain ⟨⟨v, rfl⟩, hW₂, e2, q2, q3, q4, q5, q6⟩ := id hfe
    have e3 : s₂ = ({ (U.calling g mk a).setFrames s₂.frames with heap := s₂.heap, slotsUsed := s₂.slotsUsed } : State).setVm s₂.vm := by
      have : s₂ = ({ s₂ with vm := (U.calling g mk a).vm } : State).setVm s₂.vm := rfl
      rw [e2] at this
      exact this
    obtain ⟨c₂, i₂, len₂, hc₂, hd₂, hf₂⟩ := hend
    have hW' : U.WarmedH s₂.vm := hW₂
    have hcc : c₂ = c := by
      have h1 : s₂.code? g.method = U.code? g.method := by
        rw [State.code?_eq, State.code?_eq, hW'.alike.method?]
      exact Option.some.inj (hc₂.symm.trans (h1.trans h.code))
    subst hcc
    have hlen : len₂ = len := by rw [hdg] at hd₂; cases hd₂; rfl
    subst hlen
    have hs₂ : s₂ = (({ U with heap := s₂.heap, slotsUsed := s₂.slotsUsed } : State).setVm s₂.vm).setTop { g with pc := g.pc + len₂, stack := v.toList ++ g.stack } := by
      refine e3.trans ?_
      rw [hf₂, State.calling_eq h.top, State.setFrames_setFrames, State.setTop_of_frames _ hr', hr]
      rfl
    have hsame : U.sameButNew ({ U with heap := s₂.heap, slotsUsed := s₂.slotsUsed } : State) L mc ms := by
      refine ⟨?_, q2, q3, q4, q5, q6⟩
      obtain ⟨t, ht, -⟩ := State.frames_cons hr
      show ({ U with heap := s₂.heap, slotsUsed := s₂.slotsUsed } : State) = { U.setFrames U.frames with heap := s₂.heap, slotsUsed := s₂.slotsUsed }
      rw [State.setFrames_self ht]
    subst hg
    refine Or.inl ⟨v, ⟨(({ U with heap := s₂.heap, slotsUsed := s₂.slotsUsed } : State).setVm s₂.vm), Ls ++ L, c0 + mc, s0 + ms⟩,
      ⟨X.admits, X.cas, X.clock, X.frames, X.room, X.hears, X.method, X.code, (X.here.setHeapUsed s₂.heap s₂.slotsUsed).setVm hW'.alike, X.tail, State.WarmedH.trans X.warmed hW', X.limits, X.bytes, X.same.trans (hsame.setVm s.vm)⟩,
      ⟨g, mk, s₂, L, rfl, rfl, hqc, rfl, hL, rfl, rfl⟩, ?_⟩
    show Steps p.tables e below _ ((({ U with heap := s₂.heap, slotsUsed := s₂.slotsUsed } : State).setVm s₂.vm).setTop { g with pc := g.pc + len₂, stack := v.toList ++ g.stack })
    rw [← hs₂]
    exact hsteps
  · obtain ⟨e2, q2, q3, q4, q5, q6⟩ := id hsm
    have e3 : s₂ = ({ (U.calling g mk a).setFrames s₂.frames with heap := s₂.heap, slotsUsed := s₂.slotsUsed } : State).setVm s₂.vm := by
      have : s₂ = ({ s₂ with vm := (U.calling g mk a).vm } : State).setVm s₂.vm := rfl
      rw [e2] at this
      exact this
    have hf₂ : s₂.frames = .throwing q :: .java g :: U.frames.tail := hend
    have hW' : U.WarmedH s₂.vm := hW₂
    have hs₂ : s₂ = ((({ U with heap := s₂.heap, slotsUsed := s₂.slotsUsed } : State).setVm s₂.vm).setTop g).pushFrame (.throwing q) := by
      refine e3.trans ?_
      rw [hf₂, State.calling_eq h.top, State.setFrames_setFrames, State.pushFrame, State.frames_setTop _ hr', State.setTop_of_frames _ hr', State.setFrames_setFrames, hr]
      rfl
    have hsame : U.sameButNew ({ U with heap := s₂.heap, slotsUsed := s₂.slotsUsed } : State) L mc ms := by
      refine ⟨?_, q2, q3, q4, q5, q6⟩
      obtain ⟨t, ht, -⟩ := State.frames_cons hr
      show ({ U with heap := s₂.heap, slotsUsed := s₂.slotsUsed } : State) = { U.setFrames U.frames with heap := s₂.heap, slotsUsed := s₂.slotsUsed }
      rw [State.setFrames_self ht]
    subst hg
    refine Or.inr ⟨q, ⟨(({ U with heap := s₂.heap, slotsUsed := s₂.slotsUsed } : State).setVm s₂.vm), Ls ++ L, c0 + mc, s0 + ms⟩,
      ⟨X.admits, X.cas, X.clock, X.frames, X.room, X.hears, X.method, X.code, (X.here.setHeapUsed s₂.heap s₂.slotsUsed).setVm hW'.alike, X.tail, State.WarmedH.trans X.warmed hW', X.limits, X.bytes, X.same.trans (hsame.setVm s.vm)⟩,
      ⟨g, mk, s₂, L, E, ce, rfl, rfl, hx, hce, hcv, hcl, rfl, hL, rfl, rfl⟩, ?_⟩
    show Steps p.tables e below _ (((({ U with heap := s₂.heap, slotsUsed := s₂.slotsUsed } : State).setVm s₂.vm).setTop g).pushFrame (.throwing q))
    rw [← hs₂]
    exact hsteps
end Payer
section Calls
variable {p : Program} {l : Launch} {e : Env} {R : Room} {s : State} {m : MethodId} {args : Array Value} {below : List Frame} {meth : Method} {c : Code} {T : State} {locs : List Loc} {cells slots : Nat}
theorem vx_callV (X : Stand p l e R s m args below meth c T locs cells slots) (hexec : p.tables.exec = Jvm.exec) {own C : String} {index : Nat} {y : MethodName} {bytes : ByteArray} {maxL : Nat} {ret : Option FieldType}
    (hown : s.vm.findClass own = some m.cls) (hlink : (Cond.methodLink own index y).before args s = true) (hinst : (Cond.instanceMethod y).before args s = true) (hsel : (Cond.selects C y y).before args s = true)
    (hcode : (Cond.code y bytes maxL ret).before args s = true) (hy : y.cls ≠ "java/lang/invoke/MethodHandle" ∧ y.cls ≠ "java/lang/invoke/VarHandle")
    {W9 : Nat} {Pre : Pt → Array Value → Prop} {Post : Pt → Array Value → Option Value → Pt → Prop} {PostX : Pt → Array Value → Addr → Pt → Prop} (hK : vx_Back l R p e below s args y 3 W9 Pre Post PostX)
    {b : Addr} {cellB : Cell} (hcell : T.heap[b]? = some cellB) (hobj : cellB.vm.isStatics = false) (hcls : s.vm.findClass C = some cellB.cls)
    {g : JFrame} (hg : g.method = m) (hsize : g.locals.size = c.maxLocals) {argsL rest : List Value} (hlen : ∀ sig, parseMethodDescriptor y.desc = some sig → argsL.length = sig.parameters.length)
    (hstack : g.stack = argsL.reverse ++ .ref b :: rest) (hW : 2 * g.monitorRoom + (rest.map fun v => v.category).sum ≤ W9) (hdg : decode c.code g.pc = .ok (.invokevirtual index, 3))
    (hpre : ∀ vm₁, s.WarmedH vm₁ → Pre ⟨T.setVm vm₁, locs, cells, slots⟩ (Value.ref b :: argsL).toArray) :
    (∃ (v : Option Value) (vm₁ : Vm) (B : Pt), s.WarmedH vm₁ ∧ Stand p l e R s m args below meth c B.U B.locs B.cells B.slots ∧ Post ⟨T.setVm vm₁, locs, cells, slots⟩ (Value.ref b :: argsL).toArray v B ∧
      ∀ target, Steps p.tables e below (B.U.setTop { g with pc := g.pc + 3, stack := v.toList ++ rest }) target → Steps p.tables e below (T.setTop g) target) ∨
    (∃ (q : Addr) (vm₁ : Vm) (B : Pt), s.WarmedH vm₁ ∧ Stand p l e R s m args below meth c B.U B.locs B.cells B.slots ∧ PostX ⟨T.setVm vm₁, locs, cells, slots⟩ (Value.ref b :: argsL).toArray q B ∧
      Steps p.tables e below (T.setTop g) ((B.U.setTop { g with stack := rest }).pushFrame (.throwing q))) := by
  obtain ⟨mk, methM, hnamed, hmethM, hstM, habM⟩ := Cond.instanceMethod_spec hinst
  obtain ⟨methM', cM, hmethM', -, -, -, -, -, -, hsigM⟩ := Cond.code_spec hnamed hcode
  cases hmethM.symm.trans hmethM'
  obtain ⟨c2, r2, m2, q1, q2, q3, q4, kP, hkP, hkPi⟩ := Cond.selects_spec hsel
  cases hcls.symm.trans q1
  cases (State.methodFound?_of_named hnamed hy).symm.trans q2
  cases hnamed.symm.trans q3
  have hselP : selectMethod e.platform s.vm cellB.cls mk = .method mk := by rw [Launch.admits_selectMethod X.admits]; exact q4
  obtain ⟨vm₁, X₁, hstep₁⟩ := X.invokevirtual hexec hown hlink hnamed hmethM hstM hkP hkPi hy (a := b) (cell := cellB) hcell
    (fun z h => by rw [h] at hobj; cases hobj) hselP hmethM habM hkP hkPi (g := g) hg (argsL := argsL) (rest := rest) (hlen _ hsigM) hstack hdg
  rcases hK m meth c ⟨T.setVm vm₁, locs, cells, slots⟩ { g with stack := rest } (.invokevirtual index) mk (Value.ref b :: argsL).toArray X₁ hg hsize hdg hW (X₁.named hnamed) (hpre vm₁ X₁.warmed) with ⟨v, B, X', hpost, hsteps⟩ | ⟨q, B, X', hpost, hsteps⟩
  · exact Or.inl ⟨v, vm₁, B, X₁.warmed, X', hpost, fun target h => hstep₁ _ fun acts => by rw [doInvoke_state]; exact hsteps.trans h⟩
  · exact Or.inr ⟨q, vm₁, B, X₁.warmed, X', hpost, hstep₁ _ fun acts => by rw [doInvoke_state]; exact hsteps⟩
theorem vx_callS (X : Stand p l e R s m args below meth c T locs cells slots) (hexec : p.tables.exec = Jvm.exec) {own : String} {index : Nat} {y : MethodName} {bytes : ByteArray} {maxL : Nat} {ret : Option FieldType}
    (hown : s.vm.findClass own = some m.cls) (hlink : (Cond.methodLink own index y).before args s = true) (hstat : (Cond.static y).before args s = true) (hinit : (Cond.initialized y.cls).before args s = true)
    (hcode : (Cond.code y bytes maxL ret).before args s = true) (hy : y.cls ≠ "java/lang/invoke/MethodHandle" ∧ y.cls ≠ "java/lang/invoke/VarHandle")
    {W9 : Nat} {Pre : Pt → Array Value → Prop} {Post : Pt → Array Value → Option Value → Pt → Prop} {PostX : Pt → Array Value → Addr → Pt → Prop} (hK : vx_Back l R p e below s args y 3 W9 Pre Post PostX)
    {g : JFrame} (hg : g.method = m) (hsize : g.locals.size = c.maxLocals) {argsL rest : List Value} (hlen : ∀ sig, parseMethodDescriptor y.desc = some sig → argsL.length = sig.parameters.length)
    (hstack : g.stack = argsL.reverse ++ rest) (hW : 2 * g.monitorRoom + (rest.map fun v => v.category).sum ≤ W9) (hdg : decode c.code g.pc = .ok (.invokestatic index, 3))
    (hpre : ∀ vm₁, s.WarmedH vm₁ → Pre ⟨T.setVm vm₁, locs, cells, slots⟩ argsL.toArray) :
    (∃ (v : Option Value) (vm₁ : Vm) (B : Pt), s.WarmedH vm₁ ∧ Stand p l e R s m args below meth c B.U B.locs B.cells B.slots ∧ Post ⟨T.setVm vm₁, locs, cells, slots⟩ argsL.toArray v B ∧
      ∀ target, Steps p.tables e below (B.U.setTop { g with pc := g.pc + 3, stack := v.toList ++ rest }) target → Steps p.tables e below (T.setTop g) target) ∨
    (∃ (q : Addr) (vm₁ : Vm) (B : Pt), s.WarmedH vm₁ ∧ Stand p l e R s m args below meth c B.U B.locs B.cells B.slots ∧ PostX ⟨T.setVm vm₁, locs, cells, slots⟩ argsL.toArray q B ∧
      Steps p.tables e below (T.setTop g) ((B.U.setTop { g with stack := rest }).pushFrame (.throwing q))) := by
  obtain ⟨mk, hnamed⟩ := Cond.code_named hcode
  obtain ⟨methM, cM, hmethM, -, -, -, -, -, -, hsigM⟩ := Cond.code_spec hnamed hcode
  have hstatic : methM.isStatic = true := Cond.static_spec hnamed hmethM hstat
  obtain ⟨kP, hkP, -⟩ := className_of_methodNamed hnamed
  have hinitP : kP.init = .initialized := Cond.initialized_spec (findClass_of_methodNamed hnamed) hkP hinit
  obtain ⟨vm₁, X₁, hstep₁⟩ := X.invokestatic hexec hown hlink hnamed hmethM hstatic hkP hinitP hy (g := g) hg (argsL := argsL) (rest := rest) (hlen _ hsigM) hstack hdg
  rcases hK m meth c ⟨T.setVm vm₁, locs, cells, slots⟩ { g with stack := rest } (.invokestatic index) mk argsL.toArray X₁ hg hsize hdg hW (X₁.named hnamed) (hpre vm₁ X₁.warmed) with ⟨v, B, X', hpost, hsteps⟩ | ⟨q, B, X', hpost, hsteps⟩
  · exact Or.inl ⟨v, vm₁, B, X₁.warmed, X', hpost, fun target h => hstep₁ _ fun acts => by rw [doInvoke_state]; exact hsteps.trans h⟩
  · exact Or.inr ⟨q, vm₁, B, X₁.warmed, X', hpost, hstep₁ _ fun acts => by rw [doInvoke_state]; exact hsteps⟩
end Calls
theorem vx_cls {s : State} {T : State} {vm₁ : Vm} {E : String} {k : ClassId} (hW : s.WarmedH vm₁) (h : (T.setVm vm₁).vm.findClass E = some k) : s.vm.findClass E = some k := by
  have h1 : vm₁.findClass E = some k := h
  rw [hW.alike.findClass] at h1
  exact h1
/-- the method's frame g, with q thrown over it -/
def vx_W (p : Program) (l : Launch) (e : Env) (R : Room) (s : State) (m : MethodId) (args : Array Value) (below : List Frame) (meth : Method) (c : Code) (H : Heap) (locs : List Loc) (cells slots : Nat) (Q : State → Prop) (g : JFrame) (q : Addr) : Prop :=
  ∀ T : State, T.heap = H → Stand p l e R s m args below meth c T locs cells slots → ∃ t, Steps p.tables e below ((T.setTop g).pushFrame (.throwing q)) t ∧ Q t
def vx_Run (p : Program) (l : Launch) (e : Env) (R : Room) (s : State) (m : MethodId) (args : Array Value) (below : List Frame) (meth : Method) (c : Code) (H : Heap) (locs : List Loc) (cells slots mc ms : Nat) (g : JFrame) (rest : List Value) (Qa : State → Outcome → State → Prop) (XC : String → State → State → Prop) (free : Addr → Prop) : Prop :=
  ∀ T : State, T.heap = H → Stand p l e R s m args below meth c T locs cells slots →
    (∃ (v : Option Value) (st₀ t T' : State) (L : List Loc), st₀.heap = H ∧ Stand p l e R s m args below meth c T' (locs ++ L) (cells + mc) (slots + ms) ∧ (∀ q ∈ L, free q.base) ∧ T'.heap = t.heap ∧ T'.vm = t.vm ∧ Qa st₀ (.returned v) t ∧
      Goes p e below T g T' { g with pc := g.pc + 3, stack := v.toList ++ rest }) ∨
    (∃ (q : Addr) (st₀ t T' : State) (L : List Loc) (E : String) (ce : Cell), st₀.heap = H ∧ Stand p l e R s m args below meth c T' (locs ++ L) (cells + mc) (slots + ms) ∧ (∀ z ∈ L, free z.base) ∧ T'.heap = t.heap ∧ T'.vm = t.vm ∧ XC E st₀ t ∧ t.heap[q]? = some ce ∧ ce.vm = .none ∧ s.vm.findClass E = some ce.cls ∧
      Steps p.tables e below (T.setTop g) ((T'.setTop { g with stack := rest }).pushFrame (.throwing q)))
def vx_X {S : Type} (px : S → Prop) (B : String → S → State → Prop) (A : Nat → Prop) : String → State → State → Prop := fun E st t => ∃ u : S, px u ∧ B E u t ∧ va_F A st t
section Runs
variable {p : Program} {l : Launch} {e : Env} {R : Room} {s : State} {m : MethodId} {args : Array Value} {below : List Frame} {meth : Method} {c : Code} {H : Heap} {locs : List Loc} {cells slots : Nat}
variable {y : MethodName} {bytes cc : ByteArray} {maxL nL mc ms n index : Nat} {ret : Option FieldType} {ws : List Cond} {rm : Room} {Pc : Array Value → State → Prop} {Qc : Array Value → State → Outcome → State → Prop} {XC : String → State → State → Prop} {free : Addr → Prop} {Ts : List Cond} {own C : String} {b : Addr} {As rest : List Value} {g : JFrame}
theorem vx_callBack (cb : CallB R s args own index y bytes maxL ret ws rm mc ms n) (hM : vx_Met l y ws rm Pc Qc XC mc ms free) (hbl : FrameBlind Pc) : vx_Back l R p e below s args y 3 8 (PreOf R mc ms Pc) (PostOf Qc mc ms free) (vx_Post XC mc ms free) := by
  obtain ⟨hrc, hrs, hfr, hlo, hws, hcw, -, hini, -⟩ := cb
  exact vx_back (bytes := bytes) (maxL := maxL) (ret := ret) hM hbl hrc hrs hfr hlo hws hcw (fun a' U hW => word_at hW (Or.inl (by first | rfl | simp [Cond.onTables, Cond.keeps, Cond.steady])) hini)
theorem vx_runV (S : CallFix p m c cc nL s args Ts own) (hM : vx_Met l y ws rm Pc Qc XC mc ms free) (cw : CallW R s args own C index y bytes maxL ret ws rm mc ms n) (hp : PreV s H C b Pc As)
    (hg : g.method = m) (hn : As.length = n) (hsize : g.locals.size = nL) (hstack : g.stack = As.reverse ++ .ref b :: rest) (hW : 2 * g.monitorRoom + (rest.map fun v => v.category).sum ≤ 8) (hdg : decode cc g.pc = .ok (.invokevirtual index, 3)) (hf : cells + mc ≤ R.cells ∧ slots + ms ≤ R.slots) :
    vx_Run p l e R s m args below meth c H locs cells slots mc ms g rest (Qc (Value.ref b :: As).toArray) XC free := by
  have hK : vx_Back l R p e below s args y 3 8 (PreOf R mc ms Pc) (PostOf Qc mc ms free) (vx_Post XC mc ms free) := vx_callBack cw.1 hM hp.1
  obtain ⟨⟨-, -, -, -, -, -, hcode, -, hy, hlen, hl⟩, hin, hse⟩ := cw
  obtain ⟨hx, hb, hml, ho, -⟩ := S
  obtain ⟨-, ⟨cellB, hcB, hoB, hclB⟩, hPc⟩ := hp
  intro T hT X
  rcases vx_callV X hx (C := C) (bytes := bytes) (maxL := maxL) (ret := ret) ho hl hin hse hcode hy hK (by rw [hT]; exact hcB) hoB hclB hg (hsize.trans hml.symm) (argsL := As) (rest := rest) (fun sig h => hn.trans (hlen sig h)) hstack hW (by rw [hb]; exact hdg)
    (fun vm₁ hW₁ => ⟨hf.1, hf.2, hPc (T.setVm vm₁) hT hW₁⟩) with ⟨v, vm₁, ⟨U', l2, c2, s2⟩, hW₁, X', ⟨g', mk, t, L, e1, e2, hq, h1, hL, h2, h3⟩, st⟩ | ⟨q, vm₁, ⟨U', l2, c2, s2⟩, hW₁, X', ⟨g', mk, t, L, E, ce, e1, e2, hq, hce, hcv, hcl, h1, hL, h2, h3⟩, st⟩
  · dsimp only [Pt.U, Pt.locs, Pt.cells, Pt.slots] at X' e1 e2 h1 h2 h3 st
    subst h1; subst h2; subst h3
    exact Or.inl ⟨v, (T.setVm vm₁).calling g' mk (Value.ref b :: As).toArray, t, U', L, hT, X', hL, e1, e2, hq, st⟩
  · dsimp only [Pt.U, Pt.locs, Pt.cells, Pt.slots] at X' e1 e2 h1 h2 h3 st hcl
    subst h1; subst h2; subst h3
    exact Or.inr ⟨q, (T.setVm vm₁).calling g' mk (Value.ref b :: As).toArray, t, U', L, E, ce, hT, X', hL, e1, e2, hq, hce, hcv, vx_cls hW₁ hcl, st⟩
theorem vx_runS (S : CallFix p m c cc nL s args Ts own) (hM : vx_Met l y ws rm Pc Qc XC mc ms free) (cw : CallB R s args own index y bytes maxL ret ws rm mc ms n ∧ (Cond.static y).before args s = true) (hp : PreS s H Pc As)
    (hg : g.method = m) (hn : As.length = n) (hsize : g.locals.size = nL) (hstack : g.stack = As.reverse ++ rest) (hW : 2 * g.monitorRoom + (rest.map fun v => v.category).sum ≤ 8) (hdg : decode cc g.pc = .ok (.invokestatic index, 3)) (hf : cells + mc ≤ R.cells ∧ slots + ms ≤ R.slots) :
    vx_Run p l e R s m args below meth c H locs cells slots mc ms g rest (Qc As.toArray) XC free := by
  have hK : vx_Back l R p e below s args y 3 8 (PreOf R mc ms Pc) (PostOf Qc mc ms free) (vx_Post XC mc ms free) := vx_callBack cw.1 hM hp.1
  obtain ⟨⟨-, -, -, -, -, -, hcode, hini, hy, hlen, hl⟩, hstt⟩ := cw
  obtain ⟨hx, hb, hml, ho, -⟩ := S
  intro T hT X
  rcases vx_callS X hx (bytes := bytes) (maxL := maxL) (ret := ret) ho hl hstt hini hcode hy hK hg (hsize.trans hml.symm) (argsL := As) (rest := rest) (fun sig h => hn.trans (hlen sig h)) hstack hW (by rw [hb]; exact hdg)
    (fun vm₁ hW₁ => ⟨hf.1, hf.2, hp.2 (T.setVm vm₁) hT hW₁⟩) with ⟨v, vm₁, ⟨U', l2, c2, s2⟩, hW₁, X', ⟨g', mk, t, L, e1, e2, hq, h1, hL, h2, h3⟩, st⟩ | ⟨q, vm₁, ⟨U', l2, c2, s2⟩, hW₁, X', ⟨g', mk, t, L, E, ce, e1, e2, hq, hce, hcv, hcl, h1, hL, h2, h3⟩, st⟩
  · dsimp only [Pt.U, Pt.locs, Pt.cells, Pt.slots] at X' e1 e2 h1 h2 h3 st
    subst h1; subst h2; subst h3
    exact Or.inl ⟨v, (T.setVm vm₁).calling g' mk As.toArray, t, U', L, hT, X', hL, e1, e2, hq, st⟩
  · dsimp only [Pt.U, Pt.locs, Pt.cells, Pt.slots] at X' e1 e2 h1 h2 h3 st hcl
    subst h1; subst h2; subst h3
    exact Or.inr ⟨q, (T.setVm vm₁).calling g' mk As.toArray, t, U', L, E, ce, hT, X', hL, e1, e2, hq, hce, hcv, vx_cls hW₁ hcl, st⟩
end Runs
section Rows
variable {p : Program} {l : Launch} {e : Env} {R : Room} {s : State} {m : MethodId} {args : Array Value} {below : List Frame} {meth : Method} {c : Code} {H : Heap} {locs : List Loc} {cells slots : Nat} {Q : State → Prop}
variable {mc ms : Nat} {free : Addr → Prop} {A0 A1 : Nat → Prop} {H0 : Heap} {a : Array Value} {pc : Nat} {ls : Array Slot} {st0 rest : List Value}
theorem vx_keep {st₀ t T' : State} {L : List Loc} (h0 : st₀.heap = H) (e1 : T'.heap = t.heap) (hS : va_S A0 H0 H locs) (hA : ∀ q, q < H.size → A1 q → A0 q) (hf : ∀ q, free q → A0 q) (hL : ∀ q ∈ L, free q.base) (hF : va_F A1 st₀ t) :
    H.size ≤ T'.heap.size ∧ (∀ q : Nat, q < H.size → ¬ A1 q → T'.heap[q]? = H[q]?) ∧ va_S A0 H0 T'.heap (locs ++ L) := by
  obtain ⟨hz, hk⟩ := hF
  rw [h0] at hz hk
  exact ⟨by rw [e1]; exact hz, fun q h1 h2 => by rw [e1]; exact hk q h1 h2,
    ⟨Nat.le_trans hS.1 (by rw [e1]; exact hz), fun q h1 h2 => by rw [e1, hk q (Nat.lt_of_lt_of_le h1 hS.1) (fun z => h2 (hA q (Nat.lt_of_lt_of_le h1 hS.1) z))]; exact hS.2.1 q h1 h2, fun q hq => by
      rcases List.mem_append.mp hq with h | h
      · exact hS.2.2 q h
      · exact hf _ (hL q h)⟩⟩
theorem vx_calli {S SX : Type} {post : Int32 → S → Prop} {px : SX → Prop} {B : S → State → Prop} {BX : String → SX → State → Prop} {AX : Nat → Prop} (hr : vx_Run p l e R s m args below meth c H locs cells slots mc ms (F0 m pc ls st0) rest (va_Qi post B A1 a) (vx_X px BX AX) free) (hS : va_S A0 H0 H locs) (hA : ∀ q, q < H.size → A1 q → A0 q) (hf : ∀ q, free q → A0 q) (hAX : ∀ q, q < H.size → AX q → A0 q)
    (kx : ∀ (E : String) (ce : Cell) (q9 : Addr) (u : SX) (t : State) (H1 : Heap) (locs1 : List Loc), t.heap = H1 → s.vm.Alike t.vm → px u → BX E u t → H.size ≤ H1.size → (∀ q : Nat, q < H.size → ¬ AX q → H1[q]? = H[q]?) → va_S A0 H0 H1 locs1 → H1[q9]? = some ce → ce.vm = .none → s.vm.findClass E = some ce.cls → vx_W p l e R s m args below meth c H1 locs1 (cells + mc) (slots + ms) Q (F0 m pc ls rest) q9)
    (kk : ∀ (r : Int32) (u : S) (t : State) (H1 : Heap) (locs1 : List Loc), t.heap = H1 → s.vm.Alike t.vm → post r u → B u t → H.size ≤ H1.size → (∀ q : Nat, q < H.size → ¬ A1 q → H1[q]? = H[q]?) → va_S A0 H0 H1 locs1 → W p l e R s m args below meth c H1 locs1 (cells + mc) (slots + ms) Q (F0 m (pc + 3) ls (.int r :: rest))) : W p l e R s m args below meth c H locs cells slots Q (F0 m pc ls st0) := by
  intro T hT X
  rcases hr T hT X with ⟨v, st₀, t, T', L, h0, X', hL, e1, e2, ⟨⟨r, u, hv, hp, hb⟩, hF⟩, st⟩ | ⟨q, st₀, t, T', L, E, ce, h0, X', hL, e1, e2, ⟨u, hp, hb, hF⟩, hce, hcv, hcl, st⟩
  · cases hv
    obtain ⟨k1, k2, k3⟩ := vx_keep h0 e1 hS hA hf hL hF
    obtain ⟨t2, a1, b1⟩ := kk r u t T'.heap (locs ++ L) e1.symm (by rw [← e2]; exact X'.warmed.alike) hp hb k1 k2 k3 T' rfl X'
    exact ⟨t2, st t2 a1, b1⟩
  · obtain ⟨k1, k2, k3⟩ := vx_keep h0 e1 hS hAX hf hL hF
    obtain ⟨t2, a1, b1⟩ := kx E ce q u t T'.heap (locs ++ L) e1.symm (by rw [← e2]; exact X'.warmed.alike) hp hb k1 k2 k3 (by rw [e1]; exact hce) hcv hcl T' rfl X'
    exact ⟨t2, st.trans a1, b1⟩
theorem vx_calll {S SX : Type} {post : Int64 → S → Prop} {px : SX → Prop} {B : S → State → Prop} {BX : String → SX → State → Prop} {AX : Nat → Prop} (hr : vx_Run p l e R s m args below meth c H locs cells slots mc ms (F0 m pc ls st0) rest (va_Ql post B A1 a) (vx_X px BX AX) free) (hS : va_S A0 H0 H locs) (hA : ∀ q, q < H.size → A1 q → A0 q) (hf : ∀ q, free q → A0 q) (hAX : ∀ q, q < H.size → AX q → A0 q)
    (kx : ∀ (E : String) (ce : Cell) (q9 : Addr) (u : SX) (t : State) (H1 : Heap) (locs1 : List Loc), t.heap = H1 → s.vm.Alike t.vm → px u → BX E u t → H.size ≤ H1.size → (∀ q : Nat, q < H.size → ¬ AX q → H1[q]? = H[q]?) → va_S A0 H0 H1 locs1 → H1[q9]? = some ce → ce.vm = .none → s.vm.findClass E = some ce.cls → vx_W p l e R s m args below meth c H1 locs1 (cells + mc) (slots + ms) Q (F0 m pc ls rest) q9)
    (kk : ∀ (r : Int64) (u : S) (t : State) (H1 : Heap) (locs1 : List Loc), t.heap = H1 → s.vm.Alike t.vm → post r u → B u t → H.size ≤ H1.size → (∀ q : Nat, q < H.size → ¬ A1 q → H1[q]? = H[q]?) → va_S A0 H0 H1 locs1 → W p l e R s m args below meth c H1 locs1 (cells + mc) (slots + ms) Q (F0 m (pc + 3) ls (.long r :: rest))) : W p l e R s m args below meth c H locs cells slots Q (F0 m pc ls st0) := by
  intro T hT X
  rcases hr T hT X with ⟨v, st₀, t, T', L, h0, X', hL, e1, e2, ⟨⟨r, u, hv, hp, hb⟩, hF⟩, st⟩ | ⟨q, st₀, t, T', L, E, ce, h0, X', hL, e1, e2, ⟨u, hp, hb, hF⟩, hce, hcv, hcl, st⟩
  · cases hv
    obtain ⟨k1, k2, k3⟩ := vx_keep h0 e1 hS hA hf hL hF
    obtain ⟨t2, a1, b1⟩ := kk r u t T'.heap (locs ++ L) e1.symm (by rw [← e2]; exact X'.warmed.alike) hp hb k1 k2 k3 T' rfl X'
    exact ⟨t2, st t2 a1, b1⟩
  · obtain ⟨k1, k2, k3⟩ := vx_keep h0 e1 hS hAX hf hL hF
    obtain ⟨t2, a1, b1⟩ := kx E ce q u t T'.heap (locs ++ L) e1.symm (by rw [← e2]; exact X'.warmed.alike) hp hb k1 k2 k3 (by rw [e1]; exact hce) hcv hcl T' rfl X'
    exact ⟨t2, st.trans a1, b1⟩
theorem vx_callf {S SX : Type} {post : UInt32 → S → Prop} {px : SX → Prop} {B : S → State → Prop} {BX : String → SX → State → Prop} {AX : Nat → Prop} (hr : vx_Run p l e R s m args below meth c H locs cells slots mc ms (F0 m pc ls st0) rest (va_Qf post B A1 a) (vx_X px BX AX) free) (hS : va_S A0 H0 H locs) (hA : ∀ q, q < H.size → A1 q → A0 q) (hf : ∀ q, free q → A0 q) (hAX : ∀ q, q < H.size → AX q → A0 q)
    (kx : ∀ (E : String) (ce : Cell) (q9 : Addr) (u : SX) (t : State) (H1 : Heap) (locs1 : List Loc), t.heap = H1 → s.vm.Alike t.vm → px u → BX E u t → H.size ≤ H1.size → (∀ q : Nat, q < H.size → ¬ AX q → H1[q]? = H[q]?) → va_S A0 H0 H1 locs1 → H1[q9]? = some ce → ce.vm = .none → s.vm.findClass E = some ce.cls → vx_W p l e R s m args below meth c H1 locs1 (cells + mc) (slots + ms) Q (F0 m pc ls rest) q9)
    (kk : ∀ (r : UInt32) (u : S) (t : State) (H1 : Heap) (locs1 : List Loc), t.heap = H1 → s.vm.Alike t.vm → post r u → B u t → H.size ≤ H1.size → (∀ q : Nat, q < H.size → ¬ A1 q → H1[q]? = H[q]?) → va_S A0 H0 H1 locs1 → W p l e R s m args below meth c H1 locs1 (cells + mc) (slots + ms) Q (F0 m (pc + 3) ls (.float r :: rest))) : W p l e R s m args below meth c H locs cells slots Q (F0 m pc ls st0) := by
  intro T hT X
  rcases hr T hT X with ⟨v, st₀, t, T', L, h0, X', hL, e1, e2, ⟨⟨r, u, hv, hp, hb⟩, hF⟩, st⟩ | ⟨q, st₀, t, T', L, E, ce, h0, X', hL, e1, e2, ⟨u, hp, hb, hF⟩, hce, hcv, hcl, st⟩
  · cases hv
    obtain ⟨k1, k2, k3⟩ := vx_keep h0 e1 hS hA hf hL hF
    obtain ⟨t2, a1, b1⟩ := kk r u t T'.heap (locs ++ L) e1.symm (by rw [← e2]; exact X'.warmed.alike) hp hb k1 k2 k3 T' rfl X'
    exact ⟨t2, st t2 a1, b1⟩
  · obtain ⟨k1, k2, k3⟩ := vx_keep h0 e1 hS hAX hf hL hF
    obtain ⟨t2, a1, b1⟩ := kx E ce q u t T'.heap (locs ++ L) e1.symm (by rw [← e2]; exact X'.warmed.alike) hp hb k1 k2 k3 (by rw [e1]; exact hce) hcv hcl T' rfl X'
    exact ⟨t2, st.trans a1, b1⟩
theorem vx_calld {S SX : Type} {post : UInt64 → S → Prop} {px : SX → Prop} {B : S → State → Prop} {BX : String → SX → State → Prop} {AX : Nat → Prop} (hr : vx_Run p l e R s m args below meth c H locs cells slots mc ms (F0 m pc ls st0) rest (va_Qd post B A1 a) (vx_X px BX AX) free) (hS : va_S A0 H0 H locs) (hA : ∀ q, q < H.size → A1 q → A0 q) (hf : ∀ q, free q → A0 q) (hAX : ∀ q, q < H.size → AX q → A0 q)
    (kx : ∀ (E : String) (ce : Cell) (q9 : Addr) (u : SX) (t : State) (H1 : Heap) (locs1 : List Loc), t.heap = H1 → s.vm.Alike t.vm → px u → BX E u t → H.size ≤ H1.size → (∀ q : Nat, q < H.size → ¬ AX q → H1[q]? = H[q]?) → va_S A0 H0 H1 locs1 → H1[q9]? = some ce → ce.vm = .none → s.vm.findClass E = some ce.cls → vx_W p l e R s m args below meth c H1 locs1 (cells + mc) (slots + ms) Q (F0 m pc ls rest) q9)
    (kk : ∀ (r : UInt64) (u : S) (t : State) (H1 : Heap) (locs1 : List Loc), t.heap = H1 → s.vm.Alike t.vm → post r u → B u t → H.size ≤ H1.size → (∀ q : Nat, q < H.size → ¬ A1 q → H1[q]? = H[q]?) → va_S A0 H0 H1 locs1 → W p l e R s m args below meth c H1 locs1 (cells + mc) (slots + ms) Q (F0 m (pc + 3) ls (.double r :: rest))) : W p l e R s m args below meth c H locs cells slots Q (F0 m pc ls st0) := by
  intro T hT X
  rcases hr T hT X with ⟨v, st₀, t, T', L, h0, X', hL, e1, e2, ⟨⟨r, u, hv, hp, hb⟩, hF⟩, st⟩ | ⟨q, st₀, t, T', L, E, ce, h0, X', hL, e1, e2, ⟨u, hp, hb, hF⟩, hce, hcv, hcl, st⟩
  · cases hv
    obtain ⟨k1, k2, k3⟩ := vx_keep h0 e1 hS hA hf hL hF
    obtain ⟨t2, a1, b1⟩ := kk r u t T'.heap (locs ++ L) e1.symm (by rw [← e2]; exact X'.warmed.alike) hp hb k1 k2 k3 T' rfl X'
    exact ⟨t2, st t2 a1, b1⟩
  · obtain ⟨k1, k2, k3⟩ := vx_keep h0 e1 hS hAX hf hL hF
    obtain ⟨t2, a1, b1⟩ := kx E ce q u t T'.heap (locs ++ L) e1.symm (by rw [← e2]; exact X'.warmed.alike) hp hb k1 k2 k3 (by rw [e1]; exact hce) hcv hcl T' rfl X'
    exact ⟨t2, st.trans a1, b1⟩
theorem vx_callv {S SX : Type} {post : S → Prop} {px : SX → Prop} {B : S → State → Prop} {BX : String → SX → State → Prop} {AX : Nat → Prop} (hr : vx_Run p l e R s m args below meth c H locs cells slots mc ms (F0 m pc ls st0) rest (va_Qv post B A1 a) (vx_X px BX AX) free) (hS : va_S A0 H0 H locs) (hA : ∀ q, q < H.size → A1 q → A0 q) (hf : ∀ q, free q → A0 q) (hAX : ∀ q, q < H.size → AX q → A0 q)
    (kx : ∀ (E : String) (ce : Cell) (q9 : Addr) (u : SX) (t : State) (H1 : Heap) (locs1 : List Loc), t.heap = H1 → s.vm.Alike t.vm → px u → BX E u t → H.size ≤ H1.size → (∀ q : Nat, q < H.size → ¬ AX q → H1[q]? = H[q]?) → va_S A0 H0 H1 locs1 → H1[q9]? = some ce → ce.vm = .none → s.vm.findClass E = some ce.cls → vx_W p l e R s m args below meth c H1 locs1 (cells + mc) (slots + ms) Q (F0 m pc ls rest) q9)
    (kk : ∀ (u : S) (t : State) (H1 : Heap) (locs1 : List Loc), t.heap = H1 → s.vm.Alike t.vm → post u → B u t → H.size ≤ H1.size → (∀ q : Nat, q < H.size → ¬ A1 q → H1[q]? = H[q]?) → va_S A0 H0 H1 locs1 → W p l e R s m args below meth c H1 locs1 (cells + mc) (slots + ms) Q (F0 m (pc + 3) ls (rest))) : W p l e R s m args below meth c H locs cells slots Q (F0 m pc ls st0) := by
  intro T hT X
  rcases hr T hT X with ⟨v, st₀, t, T', L, h0, X', hL, e1, e2, ⟨⟨u, hv, hp, hb⟩, hF⟩, st⟩ | ⟨q, st₀, t, T', L, E, ce, h0, X', hL, e1, e2, ⟨u, hp, hb, hF⟩, hce, hcv, hcl, st⟩
  · cases hv
    obtain ⟨k1, k2, k3⟩ := vx_keep h0 e1 hS hA hf hL hF
    obtain ⟨t2, a1, b1⟩ := kk u t T'.heap (locs ++ L) e1.symm (by rw [← e2]; exact X'.warmed.alike) hp hb k1 k2 k3 T' rfl X'
    exact ⟨t2, st t2 a1, b1⟩
  · obtain ⟨k1, k2, k3⟩ := vx_keep h0 e1 hS hAX hf hL hF
    obtain ⟨t2, a1, b1⟩ := kx E ce q u t T'.heap (locs ++ L) e1.symm (by rw [← e2]; exact X'.warmed.alike) hp hb k1 k2 k3 (by rw [e1]; exact hce) hcv hcl T' rfl X'
    exact ⟨t2, st.trans a1, b1⟩
end Rows
section Ends
variable {p : Program} {l : Launch} {e : Env} {R : Room} {s : State} {m : MethodId} {args : Array Value} {below : List Frame} {meth : Method} {c : Code} {H : Heap} {locs : List Loc} {cells slots : Nat} {Q : State → Prop}
variable {mc ms : Nat} {free : Addr → Prop} {A0 A1 : Nat → Prop} {H0 : Heap} {a : Array Value} {ls : Array Slot} {st0 rest : List Value}
variable {Qc : Array Value → State → Outcome → State → Prop} {XC : String → State → State → Prop}
/-- what a body that may throw owes at its end -/
def vx_MQ (below : List Frame) (Qc : Array Value → State → Outcome → State → Prop) (XC : String → State → State → Prop) (a : Array Value) (s : State) (mc ms : Nat) (free : Addr → Prop) : State → Prop := fun t =>
  ∃ o, t.status = .running ∧ Ended t below o ∧ vx_Q Qc XC mc ms free a s o t
theorem vx_ret {g : JFrame} {mc ms : Nat} (k : W p l e R s m args below meth c H locs cells slots (MQ below Qc args s mc ms free) g) : W p l e R s m args below meth c H locs cells slots (vx_MQ below Qc XC args s mc ms free) g := by
  intro T hT X
  obtain ⟨t, a1, o, b1, b2, b3, b4⟩ := k T hT X
  exact ⟨t, a1, o, b1, b2, Or.inl ⟨b3, b4⟩⟩
/-- not caught here: it goes on to the caller -/
theorem vx_widen {g : JFrame} {q : Addr} {k n : Nat} (h1 : cells ≤ k) (h2 : slots ≤ n) (kk : vx_W p l e R s m args below meth c H locs k n Q g q) : vx_W p l e R s m args below meth c H locs cells slots Q g q := fun T hT X => kk T hT (stand_widen X h1 h2)
theorem vx_out {pc : Nat} {E : String} {ce : Cell} {q : Addr} {mc ms : Nat} (hout : ∀ x ∈ c.exceptionTable.toList, covers x pc = false) (hlocks : meth.locks = false) (hcell : H[q]? = some ce) (hv : ce.vm = .none) (hcl : s.vm.findClass E = some ce.cls)
    (hx : ∀ t : State, t.heap = H → s.vm.Alike t.vm → XC E s t) (hf : ∀ z ∈ locs, free z.base) (hc : cells ≤ mc) (hs : slots ≤ ms) :
    vx_W p l e R s m args below meth c H locs cells slots (vx_MQ below Qc XC args s mc ms free) (F0 m pc ls rest) q := by
  intro T hT X
  obtain ⟨st1, hrun, hend, hW, hsm⟩ := X.leaveThrown q (g := F0 m pc ls rest) rfl rfl rfl hout hlocks
  have hcell9 : (T.setFrames (.throwing q :: below)).heap[q]? = some ce := by
    show T.heap[q]? = some ce
    rw [hT]; exact hcell
  exact ⟨_, st1, .threw q, hrun, hend, Or.inr ⟨q, rfl, E, ce, locs, hx _ hT hW.alike, hcell9, hv, hcl, hW, hsm.mono hc hs, hf⟩⟩
theorem vx_frame {U : State} {k n : Nat} (h : s.sameButNew ({ U with vm := s.vm } : State) locs k n) : s.heap.size ≤ U.heap.size ∧ ∀ q : Nat, q < s.heap.size → (∀ z ∈ locs, z.base ≠ q) → U.heap[q]? = s.heap[q]? := by
  obtain ⟨-, h2, -, -, -, h6⟩ := h
  refine ⟨h2, fun q hq hz => ?_⟩
  obtain ⟨c9, e1, e2, e3, e4⟩ := h6 q _ (Array.getElem?_eq_getElem hq)
  have hs : c9.slots = (s.heap[q]).slots := Array.ext_getElem? fun i => e4 i fun hm => hz _ hm rfl
  have h9 : c9 = s.heap[q] := by
    rw [hs] at e2
    exact e2
  have e5 : U.heap[q]? = some c9 := e1
  rw [e5, h9, Array.getElem?_eq_getElem hq]
/-- the words of a throw but the four that speak of the heap -/
def vx_no (w : Cond) : Bool := decide (w ≠ .isRef (.static Bundle.tN "UNASSIGNED_STACK" Bundle.steD)) && decide (w ≠ .isRef (.static Bundle.tN "SUPPRESSED_SENTINEL" Bundle.listD)) && decide (w ≠ .laysStatic Bundle.tN "UNASSIGNED_STACK" Bundle.steD) && decide (w ≠ .laysStatic Bundle.tN "SUPPRESSED_SENTINEL" Bundle.listD)
def vx_at0 (own : String) (ic : Nat) (X : String) (names : List String) : List Cond := (Bundle.ownAtoms0 own ic X names).filter vx_no
def vx_atS (own : String) (ic : Nat) (X : String) (names : List String) : List Cond := (Bundle.ownAtoms own ic X names).filter vx_no
/-- a word that the tables alone decide, or a good one -/
def vx_ot (w : Cond) : Bool := w.onTables || goodWord w
theorem vx_ot_at {args a' : Array Value} {s U : State} {w : Cond} (hW : s.WarmedH U.vm) (hvm : s.vm = U.vm) (hg : vx_ot w = true) (h : w.before args s = true) : w.before a' U = true := by
  simp only [vx_ot, Bool.or_eq_true] at hg
  rcases hg with hg | hg
  · exact va_tabs hg hvm h
  · exact word_at hW (good_of_word hg) h
/-- a list's words: the good ones out of the method's own list, the others by premises of their own -/
theorem vx_hat {args : Array Value} {s : State} {L B : List Cond} (h1 : ∀ w ∈ L.filter goodWord, w.before args s = true) (h2 : ∀ w ∈ L.filter (fun w => !goodWord w), w ∈ B) (h3 : ∀ w ∈ B, w.before args s = true) : ∀ w ∈ L, w.before args s = true := by
  intro w hw
  by_cases g : goodWord w = true
  · exact h1 w (List.mem_filter.mpr ⟨hw, g⟩)
  · refine h3 w (h2 w (List.mem_filter.mpr ⟨hw, ?_⟩))
    show (!goodWord w) = true
    cases hgw : goodWord w
    · rfl
    · exact absurd hgw g
theorem vx_c {args : Array Value} {s : State} {w : Cond} {B : List Cond} (h : w.before args s = true) (t : ∀ w ∈ B, w.before args s = true) : ∀ w' ∈ w :: B, w'.before args s = true := fun w' h' => (List.mem_cons.mp h').elim (fun e => by rw [e]; exact h) (t w')
theorem vx_n {args : Array Value} {s : State} : ∀ w ∈ ([] : List Cond), w.before args s = true := fun _ h => nomatch h
theorem vx_own {args : Array Value} {s : State} {L : List Cond} (h1 : ∀ w ∈ L.filter vx_no, w.before args s = true)
    (hU : (Cond.isRef (.static Bundle.tN "UNASSIGNED_STACK" Bundle.steD)).before args s = true) (hN : (Cond.isRef (.static Bundle.tN "SUPPRESSED_SENTINEL" Bundle.listD)).before args s = true)
    (lU : (Cond.laysStatic Bundle.tN "UNASSIGNED_STACK" Bundle.steD).before args s = true) (lN : (Cond.laysStatic Bundle.tN "SUPPRESSED_SENTINEL" Bundle.listD).before args s = true) : ∀ w ∈ L, w.before args s = true := by
  intro w hw
  by_cases e1 : w = .isRef (.static Bundle.tN "UNASSIGNED_STACK" Bundle.steD)
  · rw [e1]; exact hU
  · by_cases e2 : w = .isRef (.static Bundle.tN "SUPPRESSED_SENTINEL" Bundle.listD)
    · rw [e2]; exact hN
    · by_cases e3 : w = .laysStatic Bundle.tN "UNASSIGNED_STACK" Bundle.steD
      · rw [e3]; exact lU
      · by_cases e4 : w = .laysStatic Bundle.tN "SUPPRESSED_SENTINEL" Bundle.listD
        · rw [e4]; exact lN
        · exact h1 w (List.mem_filter.mpr ⟨hw, by unfold vx_no; rw [decide_eq_true e1, decide_eq_true e2, decide_eq_true e3, decide_eq_true e4]; rfl⟩)
/-- where a static field lies, its class's statics cell in H -/
def vx_L (C n d : String) (A : Nat → Prop) (U : State) (H : Heap) : Prop := ∃ (c : ClassId) (k : Class) (i : Nat) (f : Field) (a : Nat) (cell : Cell), U.vm.findClass C = some c ∧ U.fieldFound? C n d = some (c, k, i, f) ∧ f.isStatic = true ∧ k.statics = some a ∧ H[a]? = some cell ∧ cell.vm.isStatics = true ∧ cell.cls = c ∧ f.slot < cell.slots.size ∧ k.staticTypes[f.slot]? = some f.type ∧ ¬ A a
theorem vx_L.moved {C n d : String} {A : Nat → Prop} {u U : State} {H : Heap} (hvm : u.vm.Alike U.vm) (h : vx_L C n d A u H) : vx_L C n d A U H := by
  obtain ⟨c, k, i, f, a, cell, h1, h2, h3, h4, h5, h6, h7, h8, h9, h10⟩ := h
  obtain ⟨k', hi', he⟩ := State.fieldFound?_setVm hvm h2
  exact ⟨c, k', i, f, a, cell, by rw [hvm.findClass]; exact h1, hi', h3, by rw [he]; exact h4, h5, h6, h7, h8, by rw [he]; exact h9, h10⟩
theorem vx_L.kept {C n d : String} {A : Nat → Prop} {U : State} {H H1 : Heap} (h : vx_L C n d A U H) (hq : ∀ a : Nat, a < H.size → ¬ A a → H1[a]? = H[a]?) : vx_L C n d A U H1 := by
  obtain ⟨c, k, i, f, a, cell, h1, h2, h3, h4, h5, h6, h7, h8, h9, h10⟩ := h
  exact ⟨c, k, i, f, a, cell, h1, h2, h3, h4, by rw [hq a (Array.getElem?_eq_some_iff.mp h5).1 h10]; exact h5, h6, h7, h8, h9, h10⟩
theorem vx_L.narrow {C n d : String} {A B : Nat → Prop} {U : State} {H : Heap} (h : vx_L C n d A U H) (hAB : ∀ q, B q → A q) : vx_L C n d B U H := by
  obtain ⟨c, k, i, f, a, cell, h1, h2, h3, h4, h5, h6, h7, h8, h9, h10⟩ := h
  exact ⟨c, k, i, f, a, cell, h1, h2, h3, h4, h5, h6, h7, h8, h9, fun z => h10 (hAB _ z)⟩
theorem vx_L.word {C n d : String} {A : Nat → Prop} {s : State} {args : Array Value} (h : vx_L C n d A s s.heap) : (Cond.laysStatic C n d).before args s = true := by
  obtain ⟨c, k, i, f, a, cell, h1, h2, h3, h4, h5, h6, h7, h8, h9, -⟩ := h
  show (Cond.laysStatic C n d).holds args s none s [] = true
  exact Cond.laysStatic_of h1 h2 h3 h4 h5 h6 h7 h8 h9
/-- .. and what it holds: null or some reference -/
def vx_Zq (C n d : String) (A : Nat → Prop) (U : State) (H : Heap) : Prop := va_Zq C n d A U H ∧ vx_L C n d A U H
theorem vx_Zq.moved {C n d : String} {A : Nat → Prop} {u U : State} {H : Heap} (hvm : u.vm.Alike U.vm) (h : vx_Zq C n d A u H) : vx_Zq C n d A U H := ⟨va_Zq.moved hvm h.1, vx_L.moved hvm h.2⟩
theorem vx_Zq.kept {C n d : String} {A : Nat → Prop} {U : State} {H H1 : Heap} (h : vx_Zq C n d A U H) (hq : ∀ a : Nat, a < H.size → ¬ A a → H1[a]? = H[a]?) : vx_Zq C n d A U H1 := ⟨va_Zq.kept h.1 hq, vx_L.kept h.2 hq⟩
theorem vx_Zq.narrow {C n d : String} {A B : Nat → Prop} {U : State} {H : Heap} (h : vx_Zq C n d A U H) (hAB : ∀ q, B q → A q) : vx_Zq C n d B U H := ⟨va_Zq.narrow h.1 hAB, vx_L.narrow h.2 hAB⟩
theorem vx_Zqof {args : Array Value} {s : State} {C n d : String} {A : Nat → Prop} (hl : (Cond.laysStatic C n d).before args s = true) (hini : (Cond.initialized C).before args s = true) (h : (Cond.isRef (.static C n d)).before args s = true) (hA : ∀ a : Nat, a < s.heap.size → ¬ A a) : vx_Zq C n d A s s.heap := by
  refine ⟨va_Zqof hl hini h hA, ?_⟩
  obtain ⟨c, k, i, f, a, cell, h1, h2, h3, h4, h5, h6, h7, h8, h9⟩ := Cond.laysStatic_spec hl
  exact ⟨c, k, i, f, a, cell, h1, h2, h3, h4, h5, h6, h7, h8, h9, hA a (Array.getElem?_eq_some_iff.mp h5).1⟩
theorem vx_isRef {C n d : String} {v : Value} {A : Nat → Prop} {s : State} {args : Array Value} (h : va_Z C n d v A s s.heap) (hv : v.isRef = true) : (Cond.isRef (.static C n d)).before args s = true := by
  obtain ⟨cf, kf, fi, f, a, cell, h1, h2, h3, h4, h5, h6, h7, -⟩ := h
  have he : (Term.static C n d).eval args s none [] s = some v := by
    simp [Term.eval, State.fieldNamed?, h1, h2, h4, h5, h6, h7]
  simp only [Cond.before, Cond.holds, Cond.value, he]
  cases v <;> simp_all [Value.isRef]
theorem vx_isRefq {C n d : String} {A : Nat → Prop} {s : State} {args : Array Value} (h : va_Zq C n d A s s.heap) : (Cond.isRef (.static C n d)).before args s = true := by
  rcases h with h | ⟨t, h⟩
  · exact vx_isRef h rfl
  · exact vx_isRef h rfl
/-- the same frame, seen from here: as if the method were called anew in this heap -/
theorem vx_rebase {T : State} (X : Stand p l e R s m args below meth c T locs cells slots) {R' : Room} (hf : R'.frames ≤ R.frames) (hl : R'.locals ≤ R.locals) (hc : cells + R'.cells ≤ R.cells) (hs : slots + R'.slots ≤ R.slots) :
    Stand p l e R' ((T.setVm s.vm).setFrames (.invoking m args :: below)) m args below meth c T [] 0 0 := by
  have htop : (T.setVm s.vm).topJava?.isSome := X.here.top
  have hF : ((T.setVm s.vm).setFrames (.invoking m args :: below)).frames = .invoking m args :: below := State.frames_setFrames _ (State.cur_lt_of_top htop)
  obtain ⟨g₀, hg0⟩ := Option.isSome_iff_exists.mp htop
  obtain ⟨r, hr⟩ := State.topJava?_eq_some.mp hg0
  have hl9 : e.platform.stackLimits (T.setVm s.vm).me = e.platform.stackLimits s.me := X.limits
  have hb9 : (T.setVm s.vm).me.stackBytes = s.me.stackBytes := X.bytes
  refine ⟨X.admits, X.cas, X.clock, hF, ?_, X.hears, X.method, X.code, X.here, X.tail, X.warmed, ?_, ?_, ?_⟩
  · have h := X.room
    have hU : ((T.setVm s.vm).setFrames (.invoking m args :: below)).localsInUse = s.localsInUse := by
      rw [State.localsInUse_invoking hF (meth := meth) (c := c) X.method X.code, State.localsInUse_invoking X.frames X.method X.code]
    simp only [State.hasRoom, Bool.and_eq_true, decide_eq_true_eq] at h ⊢
    obtain ⟨⟨⟨⟨h1, h2, h3, h4, h5, h6⟩, h7⟩, h8⟩, h9⟩ := h
    rw [X.frames, List.length_cons] at h2 h3
    have q1 := X.heapSize
    have q2 := X.used
    simp only [hF, hU, List.length_cons, State.stackLimits_setFrames, State.stackBytes_setFrames, hl9, hb9]
    refine ⟨⟨⟨⟨by omega, by omega, by omega, by omega, by omega, h6⟩, ?_⟩, ?_⟩, X.book⟩
    · show T.heap.size + R'.cells ≤ e.platform.maxCells
      omega
    · show T.slotsUsed + R'.slots ≤ e.platform.maxSlots
      omega
  · rw [State.stackLimits_setFrames]; rfl
  · rw [State.stackBytes_setFrames]; rfl
  · refine ⟨?_, Nat.le_refl _, Nat.le_refl _, ?_, ?_, fun a c9 h9 => ⟨c9, h9, rfl, rfl, fun _ _ => rfl⟩⟩
    · obtain ⟨t, ht, -⟩ := State.frames_cons hr
      show T.setVm s.vm = { ((T.setVm s.vm).setFrames (.invoking m args :: below)).setFrames (T.setVm s.vm).frames with heap := T.heap, slotsUsed := T.slotsUsed }
      rw [State.setFrames_setFrames, State.setFrames_self ht]
      rfl
    · show T.slotsUsed = T.slotsUsed + ((T.heap.toList.drop T.heap.size).map (·.slots.size)).sum
      rw [List.drop_eq_nil_of_le (Nat.le_of_eq Array.length_toList)]
      rfl
    · show ((T.heap.toList.drop T.heap.size).map (·.slots.size)).sum ≤ 0
      rw [List.drop_eq_nil_of_le (Nat.le_of_eq Array.length_toList)]
      exact Nat.le_refl _
/-- 'throw new E()': new; dup; invokespecial; athrow -/
theorem vx_throw0 {cc : ByteArray} {pc : Nat} (hexec : p.tables.exec = Jvm.exec) (hb : c.code = cc) (hl : l.stackTraces = false) {own cls : String} {names : List String} {ik ic mc ms : Nat} {A : Nat → Prop}
    (hown : s.vm.findClass own = some m.cls) (hcls : Bundle.fit cls = true) (hnames : ∀ n ∈ names, Bundle.fit n = true)
    (hk : (Cond.classLink own ik cls).before args s = true) (hini : (Cond.initialized cls).before args s = true) (hat : ∀ w ∈ vx_at0 own ic cls names, w.before args s = true)
    (hgood : ∀ w ∈ Cond.classLink own ik cls :: Cond.initialized cls :: vx_at0 own ic cls names, vx_ot w = true)
    (hU : vx_Zq Bundle.tN "UNASSIGNED_STACK" Bundle.steD A s s.heap) (hN : vx_Zq Bundle.tN "SUPPRESSED_SENTINEL" Bundle.listD A s s.heap) (hS : va_S A s.heap H locs) (hsize : ls.size = c.maxLocals)
    (d0 : decode cc pc = .ok (.new ik, 3)) (d3 : decode cc (pc + 3) = .ok (.dup, 1)) (d4 : decode cc (pc + 4) = .ok (.invokespecial ic, 3)) (d7 : decode cc (pc + 7) = .ok (.athrow, 1))
    (hout : ∀ x ∈ c.exceptionTable.toList, covers x (pc + 7) = false)
    (hRframes : names.length + 3 < R.frames) (hRlocals : (rest.map fun v => v.category).sum + (13 * (names.length + 1) + 42) ≤ R.locals) (hRcells : cells + 1 ≤ R.cells) (hRslots : slots + 6 ≤ R.slots) (hlocks : meth.locks = false)
    (hx : ∀ t : State, s.vm.Alike t.vm → H.size ≤ t.heap.size → (∀ q : Nat, q < H.size → t.heap[q]? = H[q]?) → XC cls s t)
    (hf : ∀ z ∈ locs, free z.base) (hc : cells + 1 ≤ mc) (hs : slots + 6 ≤ ms) :
    W p l e R s m args below meth c H locs cells slots (vx_MQ below Qc XC args s mc ms free) (F0 m pc ls rest) := by
  intro T hT X
  have htr : e.platform.stackTraces = false := (show e.platform.stackTraces = l.stackTraces by rw [X.admits.platform]).trans hl
  have Y := vx_rebase X (R' := { frames := R.frames, locals := R.locals, cells := 1, slots := 6 }) (Nat.le_refl _) (Nat.le_refl _) hRcells hRslots
  obtain ⟨s', hA⟩ : ∃ z, z = (T.setVm s.vm).setFrames (.invoking m args :: below) := ⟨_, rfl⟩
  rw [← hA] at Y
  have hvm : s'.vm = s.vm := by rw [hA]; rfl
  have hhp : s'.heap = H := by rw [hA]; exact hT
  have hW0 : s.WarmedH s'.vm := by rw [hvm]; exact State.WarmedH.refl s
  have hat' : ∀ w ∈ vx_at0 own ic cls names, w.before args s' = true := fun w hw => vx_ot_at hW0 hvm.symm (hgood w (List.mem_cons_of_mem _ (List.mem_cons_of_mem _ hw))) (hat w hw)
  have hk' : (Cond.classLink own ik cls).before args s' = true := vx_ot_at hW0 hvm.symm (hgood _ List.mem_cons_self) hk
  have hini' : (Cond.initialized cls).before args s' = true := vx_ot_at hW0 hvm.symm (hgood _ (List.mem_cons_of_mem _ List.mem_cons_self)) hini
  have hU' : vx_Zq Bundle.tN "UNASSIGNED_STACK" Bundle.steD A s' s'.heap := by rw [hhp]; exact vx_Zq.moved hW0.alike (hU.kept hS.2.1)
  have hN' : vx_Zq Bundle.tN "SUPPRESSED_SENTINEL" Bundle.listD A s' s'.heap := by rw [hhp]; exact vx_Zq.moved hW0.alike (hN.kept hS.2.1)
  have h : ∀ w ∈ Bundle.ownAtoms0 own ic cls names, w.before args s' = true := vx_own hat' (vx_isRefq hU'.1) (vx_isRefq hN'.1) hU'.2.word hN'.2.word
  have hown' : s'.vm.findClass own = some m.cls := by rw [hvm]; exact hown
  have hins : (Cond.instantiable cls 6).before args s' = true := h _ (by simp [Bundle.ownAtoms0])
  obtain ⟨vm₁, cX, kX, hfX, hkX, -, -, X₁, st1⟩ := Y.newCold hexec (own := own) (C := cls) (index := ik) (n := 6) hown' hk' hins hini'
    (g := F0 m pc ls rest) rfl (by rw [hb]; exact d0) (Nat.le_refl _) (Nat.le_refl _)
  generalize hT1 : (T.setVm vm₁).pushCell { cls := cX, slots := kX.instanceTypes.map defaultValue, vm := .none } = T1 at X₁ st1
  have hcat : (Value.ref T.heap.size).category = 1 := rfl
  have hcellA : T1.heap[T.heap.size]? = some (freshCell cX kX) := by rw [← hT1]; exact State.heap_pushCell_size _ _
  have d3' : decode c.code (pc + 3) = .ok (.dup, 1) := by rw [hb]; exact d3
  obtain ⟨U, hsteps, hrun, hend, hW, hsame, ce, hce, hO⟩ := X₁.ctorThrow0 hexec htr (own := own) (cls := cls) (names := names) (ic := ic) hown' hcls hnames h (fun x hx => nomatch hx) hfX hkX hcellA (by rw [hhp, hT]; exact Nat.le_refl _)
    (g := { method := m, pc := pc + 4, locals := ls, stack := .ref T.heap.size :: .ref T.heap.size :: rest, locked := none }) rfl hsize rfl rfl (rest := rest) rfl
    (by rw [hb]; exact d4) (by rw [hb]; exact d7) hout hRframes (by simp only [List.map_cons, List.sum_cons, hcat]; omega) hlocks
  obtain ⟨f1, f2⟩ := vx_frame hsame
  rw [hhp] at f1 f2
  have hWs : s.WarmedH U.vm := State.WarmedH.trans hW0 hW
  have hcl : s.vm.findClass cls = some ce.cls := by
    have h9 := hO.cls
    rw [hvm] at h9
    exact h9
  have hall : s.sameButNew ({ U with vm := s.vm } : State) locs mc ms := by
    subst hA
    obtain ⟨e1, e2⟩ := hsame
    rw [State.setFrames_setFrames] at e1
    have h2 : (T.setVm s.vm).sameButNew ({ U with vm := s.vm } : State) [] (0 + 1) (0 + 6) := ⟨e1, e2⟩
    have h3 := X.same.trans h2
    rw [List.append_nil] at h3
    exact h3.mono hc hs
  refine ⟨U, ?_, .threw T.heap.size, hrun, hend, Or.inr ⟨T.heap.size, rfl, cls, ce, locs, hx U hWs.alike f1 (fun q hq => f2 q hq (fun z hz => nomatch hz)), hce, hO.vm, hcl, hWs, hall, hf⟩⟩
  refine st1 _ ?_
  show Steps p.tables e below (T1.setTop { method := m, pc := pc + 3, locals := ls, stack := .ref T.heap.size :: rest, locked := none }) _
  jvm_step X₁.here [X₁.here.top, hexec, d3', Value.category]
  exact hsteps
/-- 'throw new E("text")': new; dup; ldc; invokespecial; athrow -/
theorem vx_throwS {cc : ByteArray} {pc : Nat} (hexec : p.tables.exec = Jvm.exec) (hb : c.code = cc) (hl : l.stackTraces = false) {own cls text : String} {names : List String} {ik is ic mc ms sa : Nat} {A : Nat → Prop}
    (hown : s.vm.findClass own = some m.cls) (hcls : Bundle.fit cls = true) (hnames : ∀ n ∈ names, Bundle.fit n = true)
    (hk : (Cond.classLink own ik cls).before args s = true) (hini : (Cond.initialized cls).before args s = true) (hstr : vk_R own is text sa s) (hat : ∀ w ∈ vx_atS own ic cls names, w.before args s = true)
    (hgood : ∀ w ∈ Cond.classLink own ik cls :: Cond.initialized cls :: vx_atS own ic cls names, vx_ot w = true)
    (hU : vx_Zq Bundle.tN "UNASSIGNED_STACK" Bundle.steD A s s.heap) (hN : vx_Zq Bundle.tN "SUPPRESSED_SENTINEL" Bundle.listD A s s.heap) (hS : va_S A s.heap H locs) (hsize : ls.size = c.maxLocals)
    (d0 : decode cc pc = .ok (.new ik, 3)) (d3 : decode cc (pc + 3) = .ok (.dup, 1)) (d4 : decode cc (pc + 4) = .ok (.ldc is, 2)) (d6 : decode cc (pc + 6) = .ok (.invokespecial ic, 3)) (d9 : decode cc (pc + 9) = .ok (.athrow, 1))
    (hout : ∀ x ∈ c.exceptionTable.toList, covers x (pc + 9) = false)
    (hRframes : names.length + 3 < R.frames) (hRlocals : (rest.map fun v => v.category).sum + (13 * (names.length + 1) + 43) ≤ R.locals) (hRcells : cells + 1 ≤ R.cells) (hRslots : slots + 6 ≤ R.slots) (hlocks : meth.locks = false)
    (hx : ∀ t : State, s.vm.Alike t.vm → H.size ≤ t.heap.size → (∀ q : Nat, q < H.size → t.heap[q]? = H[q]?) → XC cls s t)
    (hf : ∀ z ∈ locs, free z.base) (hc : cells + 1 ≤ mc) (hs : slots + 6 ≤ ms) :
    W p l e R s m args below meth c H locs cells slots (vx_MQ below Qc XC args s mc ms free) (F0 m pc ls rest) := by
  intro T hT X
  have htr : e.platform.stackTraces = false := (show e.platform.stackTraces = l.stackTraces by rw [X.admits.platform]).trans hl
  have Y := vx_rebase X (R' := { frames := R.frames, locals := R.locals, cells := 1, slots := 6 }) (Nat.le_refl _) (Nat.le_refl _) hRcells hRslots
  obtain ⟨s', hA⟩ : ∃ z, z = (T.setVm s.vm).setFrames (.invoking m args :: below) := ⟨_, rfl⟩
  rw [← hA] at Y
  have hvm : s'.vm = s.vm := by rw [hA]; rfl
  have hhp : s'.heap = H := by rw [hA]; exact hT
  have hW0 : s.WarmedH s'.vm := by rw [hvm]; exact State.WarmedH.refl s
  have hat' : ∀ w ∈ vx_atS own ic cls names, w.before args s' = true := fun w hw => vx_ot_at hW0 hvm.symm (hgood w (List.mem_cons_of_mem _ (List.mem_cons_of_mem _ hw))) (hat w hw)
  have hk' : (Cond.classLink own ik cls).before args s' = true := vx_ot_at hW0 hvm.symm (hgood _ List.mem_cons_self) hk
  have hini' : (Cond.initialized cls).before args s' = true := vx_ot_at hW0 hvm.symm (hgood _ (List.mem_cons_of_mem _ List.mem_cons_self)) hini
  have hU' : vx_Zq Bundle.tN "UNASSIGNED_STACK" Bundle.steD A s' s'.heap := by rw [hhp]; exact vx_Zq.moved hW0.alike (hU.kept hS.2.1)
  have hN' : vx_Zq Bundle.tN "SUPPRESSED_SENTINEL" Bundle.listD A s' s'.heap := by rw [hhp]; exact vx_Zq.moved hW0.alike (hN.kept hS.2.1)
  have h : ∀ w ∈ Bundle.ownAtoms own ic cls names, w.before args s' = true := vx_own hat' (vx_isRefq hU'.1) (vx_isRefq hN'.1) hU'.2.word hN'.2.word
  have hown' : s'.vm.findClass own = some m.cls := by rw [hvm]; exact hown
  have hins : (Cond.instantiable cls 6).before args s' = true := h _ (by simp [Bundle.ownAtoms])
  obtain ⟨vm₁, cX, kX, hfX, hkX, -, -, X₁, st1⟩ := Y.newCold hexec (own := own) (C := cls) (index := ik) (n := 6) hown' hk' hins hini'
    (g := F0 m pc ls rest) rfl (by rw [hb]; exact d0) (Nat.le_refl _) (Nat.le_refl _)
  generalize hT1 : (T.setVm vm₁).pushCell { cls := cX, slots := kX.instanceTypes.map defaultValue, vm := .none } = T1 at X₁ st1
  have hcat : (Value.ref T.heap.size).category = 1 := rfl
  have hcellA : T1.heap[T.heap.size]? = some (freshCell cX kX) := by rw [← hT1]; exact State.heap_pushCell_size _ _
  have d3' : decode c.code (pc + 3) = .ok (.dup, 1) := by rw [hb]; exact d3
  have d4' : decode c.code (pc + 4) = .ok (.ldc is, 2) := by rw [hb]; exact d4
  have hstr' : vk_R own is text sa s' := vk_R.warm hW0 hstr
  obtain ⟨U, hsteps, hrun, hend, hW, hsame, ce, hce, hO⟩ := X₁.ctorThrowS hexec htr (own := own) (cls := cls) (names := names) (ic := ic) hown' hcls hnames h (fun x hx => nomatch hx) hfX hkX hcellA (by rw [hhp, hT]; exact Nat.le_refl _) (msg := .ref sa) rfl
    (g := { method := m, pc := pc + 6, locals := ls, stack := .ref sa :: .ref T.heap.size :: .ref T.heap.size :: rest, locked := none }) rfl hsize rfl rfl (rest := rest) rfl
    (by rw [hb]; exact d6) (by rw [hb]; exact d9) hout hRframes (by simp only [List.map_cons, List.sum_cons, hcat]; omega) hlocks
  obtain ⟨f1, f2⟩ := vx_frame hsame
  rw [hhp] at f1 f2
  have hWs : s.WarmedH U.vm := State.WarmedH.trans hW0 hW
  have hcl : s.vm.findClass cls = some ce.cls := by
    have h9 := hO.cls
    rw [hvm] at h9
    exact h9
  have hall : s.sameButNew ({ U with vm := s.vm } : State) locs mc ms := by
    subst hA
    obtain ⟨e1, e2⟩ := hsame
    rw [State.setFrames_setFrames] at e1
    have h2 : (T.setVm s.vm).sameButNew ({ U with vm := s.vm } : State) [] (0 + 1) (0 + 6) := ⟨e1, e2⟩
    have h3 := X.same.trans h2
    rw [List.append_nil] at h3
    exact h3.mono hc hs
  refine ⟨U, ?_, .threw T.heap.size, hrun, hend, Or.inr ⟨T.heap.size, rfl, cls, ce, locs, hx U hWs.alike f1 (fun q hq => f2 q hq (fun z hz => nomatch hz)), hce, hO.vm, hcl, hWs, hall, hf⟩⟩
  refine st1 _ ?_
  show Steps p.tables e below (T1.setTop { method := m, pc := pc + 3, locals := ls, stack := .ref T.heap.size :: rest, locked := none }) _
  jvm_step X₁.here [X₁.here.top, hexec, d3', Value.category]
  exact X₁.ldcString hexec (own := own) (text := text) (index := is) (a := sa) hown' hstr'.1 hstr'.2
    (g := { method := m, pc := pc + 4, locals := ls, stack := .ref T.heap.size :: .ref T.heap.size :: rest, locked := none }) rfl d4' _ hsteps
/-- 'throw new E("text")', the text by a wide index -/
theorem vx_throwSW {cc : ByteArray} {pc : Nat} (hexec : p.tables.exec = Jvm.exec) (hb : c.code = cc) (hl : l.stackTraces = false) {own cls text : String} {names : List String} {ik is ic mc ms sa : Nat} {A : Nat → Prop}
    (hown : s.vm.findClass own = some m.cls) (hcls : Bundle.fit cls = true) (hnames : ∀ n ∈ names, Bundle.fit n = true)
    (hk : (Cond.classLink own ik cls).before args s = true) (hini : (Cond.initialized cls).before args s = true) (hstr : vk_R own is text sa s) (hat : ∀ w ∈ vx_atS own ic cls names, w.before args s = true)
    (hgood : ∀ w ∈ Cond.classLink own ik cls :: Cond.initialized cls :: vx_atS own ic cls names, vx_ot w = true)
    (hU : vx_Zq Bundle.tN "UNASSIGNED_STACK" Bundle.steD A s s.heap) (hN : vx_Zq Bundle.tN "SUPPRESSED_SENTINEL" Bundle.listD A s s.heap) (hS : va_S A s.heap H locs) (hsize : ls.size = c.maxLocals)
    (d0 : decode cc pc = .ok (.new ik, 3)) (d3 : decode cc (pc + 3) = .ok (.dup, 1)) (d4 : decode cc (pc + 4) = .ok (.ldc_w is, 3)) (d7 : decode cc (pc + 7) = .ok (.invokespecial ic, 3)) (d10 : decode cc (pc + 10) = .ok (.athrow, 1))
    (hout : ∀ x ∈ c.exceptionTable.toList, covers x (pc + 10) = false)
    (hRframes : names.length + 3 < R.frames) (hRlocals : (rest.map fun v => v.category).sum + (13 * (names.length + 1) + 43) ≤ R.locals) (hRcells : cells + 1 ≤ R.cells) (hRslots : slots + 6 ≤ R.slots) (hlocks : meth.locks = false)
    (hx : ∀ t : State, s.vm.Alike t.vm → H.size ≤ t.heap.size → (∀ q : Nat, q < H.size → t.heap[q]? = H[q]?) → XC cls s t)
    (hf : ∀ z ∈ locs, free z.base) (hc : cells + 1 ≤ mc) (hs : slots + 6 ≤ ms) :
    W p l e R s m args below meth c H locs cells slots (vx_MQ below Qc XC args s mc ms free) (F0 m pc ls rest) := by
  intro T hT X
  have htr : e.platform.stackTraces = false := (show e.platform.stackTraces = l.stackTraces by rw [X.admits.platform]).trans hl
  have Y := vx_rebase X (R' := { frames := R.frames, locals := R.locals, cells := 1, slots := 6 }) (Nat.le_refl _) (Nat.le_refl _) hRcells hRslots
  obtain ⟨s', hA⟩ : ∃ z, z = (T.setVm s.vm).setFrames (.invoking m args :: below) := ⟨_, rfl⟩
  rw [← hA] at Y
  have hvm : s'.vm = s.vm := by rw [hA]; rfl
  have hhp : s'.heap = H := by rw [hA]; exact hT
  have hW0 : s.WarmedH s'.vm := by rw [hvm]; exact State.WarmedH.refl s
  have hat' : ∀ w ∈ vx_atS own ic cls names, w.before args s' = true := fun w hw => vx_ot_at hW0 hvm.symm (hgood w (List.mem_cons_of_mem _ (List.mem_cons_of_mem _ hw))) (hat w hw)
  have hk' : (Cond.classLink own ik cls).before args s' = true := vx_ot_at hW0 hvm.symm (hgood _ List.mem_cons_self) hk
  have hini' : (Cond.initialized cls).before args s' = true := vx_ot_at hW0 hvm.symm (hgood _ (List.mem_cons_of_mem _ List.mem_cons_self)) hini
  have hU' : vx_Zq Bundle.tN "UNASSIGNED_STACK" Bundle.steD A s' s'.heap := by rw [hhp]; exact vx_Zq.moved hW0.alike (hU.kept hS.2.1)
  have hN' : vx_Zq Bundle.tN "SUPPRESSED_SENTINEL" Bundle.listD A s' s'.heap := by rw [hhp]; exact vx_Zq.moved hW0.alike (hN.kept hS.2.1)
  have h : ∀ w ∈ Bundle.ownAtoms own ic cls names, w.before args s' = true := vx_own hat' (vx_isRefq hU'.1) (vx_isRefq hN'.1) hU'.2.word hN'.2.word
  have hown' : s'.vm.findClass own = some m.cls := by rw [hvm]; exact hown
  have hins : (Cond.instantiable cls 6).before args s' = true := h _ (by simp [Bundle.ownAtoms])
  obtain ⟨vm₁, cX, kX, hfX, hkX, -, -, X₁, st1⟩ := Y.newCold hexec (own := own) (C := cls) (index := ik) (n := 6) hown' hk' hins hini'
    (g := F0 m pc ls rest) rfl (by rw [hb]; exact d0) (Nat.le_refl _) (Nat.le_refl _)
  generalize hT1 : (T.setVm vm₁).pushCell { cls := cX, slots := kX.instanceTypes.map defaultValue, vm := .none } = T1 at X₁ st1
  have hcat : (Value.ref T.heap.size).category = 1 := rfl
  have hcellA : T1.heap[T.heap.size]? = some (freshCell cX kX) := by rw [← hT1]; exact State.heap_pushCell_size _ _
  have d3' : decode c.code (pc + 3) = .ok (.dup, 1) := by rw [hb]; exact d3
  have d4' : decode c.code (pc + 4) = .ok (.ldc_w is, 3) := by rw [hb]; exact d4
  have hstr' : vk_R own is text sa s' := vk_R.warm hW0 hstr
  obtain ⟨U, hsteps, hrun, hend, hW, hsame, ce, hce, hO⟩ := X₁.ctorThrowS hexec htr (own := own) (cls := cls) (names := names) (ic := ic) hown' hcls hnames h (fun x hx => nomatch hx) hfX hkX hcellA (by rw [hhp, hT]; exact Nat.le_refl _) (msg := .ref sa) rfl
    (g := { method := m, pc := pc + 7, locals := ls, stack := .ref sa :: .ref T.heap.size :: .ref T.heap.size :: rest, locked := none }) rfl hsize rfl rfl (rest := rest) rfl
    (by rw [hb]; exact d7) (by rw [hb]; exact d10) hout hRframes (by simp only [List.map_cons, List.sum_cons, hcat]; omega) hlocks
  obtain ⟨f1, f2⟩ := vx_frame hsame
  rw [hhp] at f1 f2
  have hWs : s.WarmedH U.vm := State.WarmedH.trans hW0 hW
  have hcl : s.vm.findClass cls = some ce.cls := by
    have h9 := hO.cls
    rw [hvm] at h9
    exact h9
  have hall : s.sameButNew ({ U with vm := s.vm } : State) locs mc ms := by
    subst hA
    obtain ⟨e1, e2⟩ := hsame
    rw [State.setFrames_setFrames] at e1
    have h2 : (T.setVm s.vm).sameButNew ({ U with vm := s.vm } : State) [] (0 + 1) (0 + 6) := ⟨e1, e2⟩
    have h3 := X.same.trans h2
    rw [List.append_nil] at h3
    exact h3.mono hc hs
  refine ⟨U, ?_, .threw T.heap.size, hrun, hend, Or.inr ⟨T.heap.size, rfl, cls, ce, locs, hx U hWs.alike f1 (fun q hq => f2 q hq (fun z hz => nomatch hz)), hce, hO.vm, hcl, hWs, hall, hf⟩⟩
  refine st1 _ ?_
  show Steps p.tables e below (T1.setTop { method := m, pc := pc + 3, locals := ls, stack := .ref T.heap.size :: rest, locked := none }) _
  jvm_step X₁.here [X₁.here.top, hexec, d3', Value.category]
  exact X₁.ldcStringW hexec (own := own) (text := text) (index := is) (a := sa) hown' hstr'.1 hstr'.2
    (g := { method := m, pc := pc + 4, locals := ls, stack := .ref T.heap.size :: .ref T.heap.size :: rest, locked := none }) rfl d4' _ hsteps
end Ends
section Bodies
variable {l : Launch}
theorem vx_ofW {y : MethodName} {ws ws' : List Cond} {rm : Room} {Pc : Array Value → State → Prop} {Qc : Array Value → State → Outcome → State → Prop} {XC : String → State → State → Prop} {mc ms : Nat} {free : Addr → Prop} {cc : ByteArray} {maxL : Nat} {ret : Option FieldType}
    (hy : plainName y.cls = true) (hw : ws = Cond.code y cc maxL ret :: ws')
    (body : ∀ p e s m args below meth c s₁, BodyLoose p l y (headSpec ws rm) cc maxL ret e s m args below meth c s₁ → c.maxLocals = maxL → (∀ x ∈ c.exceptionTable.toList, False) → Pc args s →
      W p l e (headSpec ws rm).room s m args below meth c s.heap [] 0 0 (vx_MQ below Qc XC args s mc ms free) (entryFrame m args maxL)) : vx_Met l y ws rm Pc Qc XC mc ms free := by
  refine MetFree.of_bodyS (code := cc) (maxLocals := maxL) (ret := ret) hy ?_ ?_
  · intro args s m h hn
    obtain ⟨meth, c, h1, h2, h3, h4, h5, h6, -, -⟩ := Cond.code_spec hn (atoms_spec (ws := ws) h _ (by rw [hw]; exact List.mem_cons_self))
    exact ⟨meth, c, h1, h2, h3, h4, h5, h6⟩
  · intro p e s m args below meth c s₁ B hml hP _
    have hh0 : s₁.heap = s.heap := by rw [B.state]; rfl
    have ht : ∀ x ∈ c.exceptionTable.toList, False := by
      obtain ⟨meth9, c9, h1, h2, -, -, -, -, h7, -⟩ := Cond.code_spec B.named (atoms_spec (ws := ws) B.pre _ (by rw [hw]; exact List.mem_cons_self))
      cases Option.some.inj (h1.symm.trans B.method)
      cases Option.some.inj (h2.symm.trans (Stand.of_body B).code)
      intro x hx
      rw [Array.isEmpty_iff.mp h7] at hx
      cases hx
    obtain ⟨t, a1, o, b1, b2, b3⟩ := body p e s m args below meth c s₁ B hml ht hP s₁ hh0 (Stand.of_body B)
    exact ⟨t, o, a1, b1, b2, b3⟩
/-- the table of a body with handlers -/
theorem vx_table {p : Program} {x y : MethodName} {S : Spec} {cc bytes : ByteArray} {maxL maxL' : Nat} {ret ret' : Option FieldType} {e : Env} {s s₁ : State} {m : MethodId} {args : Array Value} {below : List Frame} {meth : Method} {c : Code} {hh : List (Nat × Nat × Nat × Nat)}
    (B : BodyLoose p l y S cc maxL ret e s m args below meth c s₁) (h : (Cond.codeWith y bytes maxL' ret' hh).before args s = true) : c.exceptionTable.toList = tableOf hh := by
  obtain ⟨m9, meth9, c9, hn9, h1, h2, -, -, h6, -⟩ := Cond.codeWith_spec h
  cases Option.some.inj (hn9.symm.trans B.named)
  cases Option.some.inj (h1.symm.trans B.method)
  cases Option.some.inj (h2.symm.trans (Stand.of_body B).code)
  rw [← h6, table_eq]
end Bodies
end VXA
/-! ===== END ===== -/
/-! ===== BEGIN a static call of a method with an exception table ===== -/
section VXS
variable {p : Program} {l : Launch} {e : Env} {R : Room} {s : State} {m : MethodId} {args : Array Value} {below : List Frame} {meth : Method} {c : Code} {T : State} {H : Heap} {locs : List Loc} {cells slots : Nat}
abbrev vx_CSW (R : Room) (s : State) (args : Array Value) (own : String) (index : Nat) (y : MethodName) (bytes : ByteArray) (maxL : Nat) (ret : Option FieldType) (hh : List (Nat × Nat × Nat × Nat)) (ws : List Cond) (rm : Room) (mc ms n : Nat) : Prop :=
  (rm.cells = mc ∧ rm.slots = ms ∧ rm.frames + 1 ≤ R.frames ∧ 8 + (maxL + 11) + rm.locals ≤ R.locals ∧ (∀ w ∈ ws, ∀ (a' : Array Value) (U : State), s.WarmedH U.vm → w.before a' U = true) ∧ Cond.codeWith y bytes maxL ret hh ∈ ws) ∧
  (Cond.codeWith y bytes maxL ret hh).before args s = true ∧ (Cond.initialized y.cls).before args s = true ∧ (y.cls ≠ "java/lang/invoke/MethodHandle" ∧ y.cls ≠ "java/lang/invoke/VarHandle") ∧
  (∀ sig, parseMethodDescriptor y.desc = some sig → n = sig.parameters.length) ∧ (Cond.methodLink own index y).before args s = true ∧ (Cond.static y).before args s = true
theorem vx_cwSW {own : String} {index maxL mc ms : Nat} {y : MethodName} {bytes : ByteArray} {ret : Option FieldType} {hh : List (Nat × Nat × Nat × Nat)} {Ts ws ws' : List Cond} {rm : Room} (n : Nat) (ht : ∀ w ∈ Ts, w.before args s = true) (hT : GoodIn Ts (va_wsS own index y ws)) (hw : ws = Cond.codeWith y bytes maxL ret hh :: ws') (hrc : rm.cells = mc) (hrs : rm.slots = ms)
    (hd : y.cls ≠ "java/lang/invoke/MethodHandle" ∧ y.cls ≠ "java/lang/invoke/VarHandle" ∧ (parseMethodDescriptor y.desc).map (fun d => d.parameters.length) = some n) (hR : rm.frames + 1 ≤ R.frames ∧ 8 + (maxL + 11) + rm.locals ≤ R.locals) :
    vx_CSW R s args own index y bytes maxL ret hh ws rm mc ms n := by
  have ok : ∀ w ∈ va_wsS own index y ws, w.before args s = true := fun w h => ht w (hT w h).1
  have hG : GoodIn Ts ws := fun w h => hT w (by unfold va_wsS; exact List.mem_append_right _ h)
  have hc : Cond.codeWith y bytes maxL ret hh ∈ ws := by rw [hw]; exact List.mem_cons_self
  refine ⟨⟨hrc, hrs, hR.1, hR.2, pay_in ht hG, hc⟩, ht _ (hG _ hc).1, ok _ (by simp [va_wsS]), ⟨hd.1, hd.2.1⟩, fun sig h => ?_, ok _ (by simp [va_wsS]), ok _ (by simp [va_wsS])⟩
  have h2 := hd.2.2
  rw [h] at h2
  exact (Option.some.inj h2).symm
theorem vx_callSW (X : Stand p l e R s m args below meth c T locs cells slots) (hexec : p.tables.exec = Jvm.exec) {own : String} {index : Nat} {y : MethodName} {bytes : ByteArray} {maxL : Nat} {ret : Option FieldType} {hh : List (Nat × Nat × Nat × Nat)}
    (hown : s.vm.findClass own = some m.cls) (hlink : (Cond.methodLink own index y).before args s = true) (hstat : (Cond.static y).before args s = true) (hinit : (Cond.initialized y.cls).before args s = true)
    (hcode : (Cond.codeWith y bytes maxL ret hh).before args s = true) (hy : y.cls ≠ "java/lang/invoke/MethodHandle" ∧ y.cls ≠ "java/lang/invoke/VarHandle")
    {W9 : Nat} {Pre : Pt → Array Value → Prop} {Post : Pt → Array Value → Option Value → Pt → Prop} (hK : Back l R p e below s args y 3 W9 Pre Post)
    {g : JFrame} (hg : g.method = m) (hsize : g.locals.size = c.maxLocals) {argsL rest : List Value} (hlen : ∀ sig, parseMethodDescriptor y.desc = some sig → argsL.length = sig.parameters.length)
    (hstack : g.stack = argsL.reverse ++ rest) (hW : 2 * g.monitorRoom + (rest.map fun v => v.category).sum ≤ W9) (hdg : decode c.code g.pc = .ok (.invokestatic index, 3))
    (hpre : ∀ vm₁, s.WarmedH vm₁ → Pre ⟨T.setVm vm₁, locs, cells, slots⟩ argsL.toArray) :
    ∃ (v : Option Value) (vm₁ : Vm) (B : Pt), s.WarmedH vm₁ ∧ Stand p l e R s m args below meth c B.U B.locs B.cells B.slots ∧ Post ⟨T.setVm vm₁, locs, cells, slots⟩ argsL.toArray v B ∧
      ∀ target, Steps p.tables e below (B.U.setTop { g with pc := g.pc + 3, stack := v.toList ++ rest }) target → Steps p.tables e below (T.setTop g) target := by
  obtain ⟨mk, methM, cM, hnamed, hmethM, -, -, -, -, -, -, hsigM⟩ := Cond.codeWith_spec hcode
  have hstatic : methM.isStatic = true := Cond.static_spec hnamed hmethM hstat
  obtain ⟨kP, hkP, -⟩ := className_of_methodNamed hnamed
  have hinitP : kP.init = .initialized := Cond.initialized_spec (findClass_of_methodNamed hnamed) hkP hinit
  obtain ⟨vm₁, X₁, hstep₁⟩ := X.invokestatic hexec hown hlink hnamed hmethM hstatic hkP hinitP hy (g := g) hg (argsL := argsL) (rest := rest) (hlen _ hsigM) hstack hdg
  obtain ⟨v, B, X', hpost, hsteps⟩ := hK m meth c ⟨T.setVm vm₁, locs, cells, slots⟩ { g with stack := rest } (.invokestatic index) mk argsL.toArray X₁ hg hsize hdg hW (X₁.named hnamed) (hpre vm₁ X₁.warmed)
  exact ⟨v, vm₁, B, X₁.warmed, X', hpost, fun target h => hstep₁ _ fun acts => by rw [doInvoke_state]; exact hsteps.trans h⟩
theorem vx_runSW {y : MethodName} {bytes cc : ByteArray} {maxL nL mc ms n index : Nat} {ret : Option FieldType} {hh : List (Nat × Nat × Nat × Nat)} {ws : List Cond} {rm : Room} {Pc : Array Value → State → Prop} {Qc : Array Value → State → Outcome → State → Prop} {free : Addr → Prop} {Ts : List Cond} {own : String} {As rest : List Value} {g : JFrame}
    (S : CallFix p m c cc nL s args Ts own) (hM : Met l y ws rm Pc Qc mc ms free) (cw : vx_CSW R s args own index y bytes maxL ret hh ws rm mc ms n) (hp : PreS s H Pc As)
    (hg : g.method = m) (hn : As.length = n) (hsize : g.locals.size = nL) (hstack : g.stack = As.reverse ++ rest) (hW : 2 * g.monitorRoom + (rest.map fun v => v.category).sum ≤ 8) (hdg : decode cc g.pc = .ok (.invokestatic index, 3)) (hf : cells + mc ≤ R.cells ∧ slots + ms ≤ R.slots) :
    va_Run p l e R s m args below meth c H locs cells slots mc ms g rest (Qc As.toArray) (free) := by
  obtain ⟨⟨hrc, hrs, hfr, hlo, hws, hcw⟩, hcode, hini, hy, hlen, hl, hstt⟩ := cw
  have hK : Back l R p e below s args y 3 8 (PreOf R mc ms Pc) (PostOf Qc mc ms free) := va_backW (hh := hh) (bytes := bytes) (maxL := maxL) (ret := ret) hM hp.1 hrc hrs hfr hlo hws hcw (fun a' U hW => word_at hW (Or.inl (by first | rfl | simp [Cond.onTables, Cond.keeps, Cond.steady])) hini)
  obtain ⟨hx, hb, hml, ho, -⟩ := S
  intro T hT X
  obtain ⟨v, vm₁, ⟨U', l2, c2, s2⟩, hW₁, X', ⟨g', mk, t, L, e1, e2, hq, h1, hL, h2, h3⟩, st⟩ := vx_callSW X hx (hh := hh) (bytes := bytes) (maxL := maxL) (ret := ret) ho hl hstt hini hcode hy hK hg (hsize.trans hml.symm) (argsL := As) (rest := rest) (fun sig h => hn.trans (hlen sig h)) hstack hW (by rw [hb]; exact hdg)
    (fun vm₁ hW₁ => ⟨hf.1, hf.2, hp.2 (T.setVm vm₁) hT hW₁⟩)
  dsimp only [Pt.U, Pt.locs, Pt.cells, Pt.slots] at X' e1 e2 h1 h2 h3 st
  subst h1; subst h2; subst h3
  exact ⟨v, (T.setVm vm₁).calling g' mk As.toArray, t, U', L, hT, X', hL, e1, e2, hq, st⟩
/-- a thing of a world lies in the heap -/
theorem vx_lt {D : va_G} {cl : List vw_C} {ws : va_W} {H1 : Heap} (h : va_P D cl ws H1) {k : Nat} {q : Nat × va_E} (hk : ws[k]? = some q) : q.1 < H1.size := (h k q hk).lt
end VXS
/-! ===== END ===== -/
/-! ===== BEGIN methods with a table of their own: called by a name, returning or throwing ===== -/
section VXH
/-! vx_backW, vx_callVX, vx_callSX, vx_callVW, vx_runVW, vx_runVX, vx_runSX, vx_ofWH follow the same proofs as their sisters above (Free/Laws.lean, Shelf42/LK1.lean); vx_outP calls Shelf42/NT130.lean (outThrough). -/
section
variable {l : Launch} {R : Room} {p : Program} {e : Env} {below : List Frame} {s : State} {sargs : Array Value} {y : MethodName} {len W9 : Nat}
theorem vx_backW {ws : List Cond} {rm : Room} {Pc : Array Value → State → Prop} {Qc : Array Value → State → Outcome → State → Prop} {XC : String → State → State → Prop} {mc ms : Nat} {free : Addr → Prop} {bytes : ByteArray} {maxL : Nat} {ret : Option FieldType} {hh : List (Nat × Nat × Nat × Nat)}
    (hM : vx_Met l y ws rm Pc Qc XC mc ms free) (hblind : FrameBlind Pc) (hrc : rm.cells = mc) (hrs : rm.slots = ms)
    (hframes : rm.frames + 1 ≤ R.frames) (hlocals : W9 + (maxL + 11) + rm.locals ≤ R.locals)
    (hws : ∀ w ∈ ws, ∀ a' U, s.WarmedH U.vm → w.before a' U = true) (hcode : Cond.codeWith y bytes maxL ret hh ∈ ws) (hinit : ∀ a' U, s.WarmedH U.vm → (Cond.initialized y.cls).before a' U = true) :
    vx_Back l R p e below s sargs y len W9 (PreOf R mc ms Pc) (PostOf Qc mc ms free) (vx_Post XC mc ms free) := by
  intro m meth c A g ig mk a X hg hsize hdg hW hn hp
  have h1 : (headSpec ws rm).pre.before a A.U = true := atoms_intro fun w hw => hws w hw _ _ X.warmed
  have h2 : (Cond.codeWith y bytes maxL ret hh).before a A.U = true := hws _ hcode _ _ X.warmed
  have h3 : (Cond.initialized y.cls).before a A.U = true := hinit _ _ X.warmed
  have h4 : A.cells + (headSpec ws rm).room.cells ≤ R.cells := by rw [show (headSpec ws rm).room.cells = mc from hrc]; exact hp.1
  have h5 : A.slots + (headSpec ws rm).room.slots ≤ R.slots := by rw [show (headSpec ws rm).room.slots = ms from hrs]; exact hp.2.1
  have hPc : Pc a (A.U.calling g mk a) := hblind _ _ _ _ hp.2.2
  obtain ⟨U, Ls, c0, s0⟩ := A
  dsimp only [Pt.U, Pt.locs, Pt.cells, Pt.slots] at h1 h2 h3 h4 h5 X hn hPc ⊢
  obtain ⟨m9, methY, cY, hn9, hmY, hcY, -, hlY, -⟩ := Cond.codeWith_spec h2
  cases Option.some.inj (hn9.symm.trans hn)
  obtain ⟨kY, hkY, -⟩ := className_of_methodNamed hn
  have hinitY : kY.init = .initialized := Cond.initialized_spec (findClass_of_methodNamed hn) hkY h3
  have h : At U g.method c below := by rw [hg]; exact X.here
  have hlocals9 : W9 + (maxL + 11) + (headSpec ws rm).room.locals ≤ R.locals := hlocals
  have happ : (headSpec ws rm).appliesLoose y e.platform (U.calling g mk a) = true :=
    Spec.appliesLoose_calling (g := g) h hdg hn hkY hinitY
      (X.room_calling (g := g) (R' := (headSpec ws rm).room) hsize hmY hcY hframes (by rw [hlY]; omega) h4 h5) h1
  obtain ⟨mid, hmid⟩ := h.above
  have hfr : (U.setTop g).frames = (.java g :: mid) ++ below := by rw [State.frames_setTop' g h.top, hmid]; rfl
  obtain ⟨o, s₂, hsteps, -, hend, hq⟩ := Steps.callFree hM p X.admits X.cas X.clock (acts := []) hfr happ hPc trivial
  have hq' : vx_Q Qc XC mc ms free a (U.calling g mk a) o s₂ := hq
  rw [State.frames_setTop' g h.top] at hend
  obtain ⟨g₀, hg0⟩ := Option.isSome_iff_exists.mp h.top
  obtain ⟨r, hr⟩ := State.topJava?_eq_some.mp hg0
  have hr' : (({ U with heap := s₂.heap, slotsUsed := s₂.slotsUsed } : State).setVm s₂.vm).frames = .java g₀ :: r := hr
  rcases hq' with ⟨hqc, L, hfe, hL⟩ | ⟨q, rfl, E, ce, L, hx, hce, hcv, hcl, hW₂, hsm, hL⟩
  · obtain ⟨⟨v, rfl⟩, hW₂, e2, q2, q3, q4, q5, q6⟩ := id hfe
    have e3 : s₂ = ({ (U.calling g mk a).setFrames s₂.frames with heap := s₂.heap, slotsUsed := s₂.slotsUsed } : State).setVm s₂.vm := by
      have : s₂ = ({ s₂ with vm := (U.calling g mk a).vm } : State).setVm s₂.vm := rfl
      rw [e2] at this
      exact this
    obtain ⟨c₂, i₂, len₂, hc₂, hd₂, hf₂⟩ := hend
    have hW' : U.WarmedH s₂.vm := hW₂
    have hcc : c₂ = c := by
      have h1 : s₂.code? g.method = U.code? g.method := by
        rw [State.code?_eq, State.code?_eq, hW'.alike.method?]
      exact Option.some.inj (hc₂.symm.trans (h1.trans h.code))
    subst hcc
    have hlen : len₂ = len := by rw [hdg] at hd₂; cases hd₂; rfl
    subst hlen
    have hs₂ : s₂ = (({ U with heap := s₂.heap, slotsUsed := s₂.slotsUsed } : State).setVm s₂.vm).setTop { g with pc := g.pc + len₂, stack := v.toList ++ g.stack } := by
      refine e3.trans ?_
      rw [hf₂, State.calling_eq h.top, State.setFrames_setFrames, State.setTop_of_frames _ hr', hr]
      rfl
    have hsame : U.sameButNew ({ U with heap := s₂.heap, slotsUsed := s₂.slotsUsed } : State) L mc ms := by
      refine ⟨?_, q2, q3, q4, q5, q6⟩
      obtain ⟨t, ht, -⟩ := State.frames_cons hr
      show ({ U with heap := s₂.heap, slotsUsed := s₂.slotsUsed } : State) = { U.setFrames U.frames with heap := s₂.heap, slotsUsed := s₂.slotsUsed }
      rw [State.setFrames_self ht]
    subst hg
    refine Or.inl ⟨v, ⟨(({ U with heap := s₂.heap, slotsUsed := s₂.slotsUsed } : State).setVm s₂.vm), Ls ++ L, c0 + mc, s0 + ms⟩,
      ⟨X.admits, X.cas, X.clock, X.frames, X.room, X.hears, X.method, X.code, (X.here.setHeapUsed s₂.heap s₂.slotsUsed).setVm hW'.alike, X.tail, State.WarmedH.trans X.warmed hW', X.limits, X.bytes, X.same.trans (hsame.setVm s.vm)⟩,
      ⟨g, mk, s₂, L, rfl, rfl, hqc, rfl, hL, rfl, rfl⟩, ?_⟩
    show Steps p.tables e below _ ((({ U with heap := s₂.heap, slotsUsed := s₂.slotsUsed } : State).setVm s₂.vm).setTop { g with pc := g.pc + len₂, stack := v.toList ++ g.stack })
    rw [← hs₂]
    exact hsteps
  · obtain ⟨e2, q2, q3, q4, q5, q6⟩ := id hsm
    have e3 : s₂ = ({ (U.calling g mk a).setFrames s₂.frames with heap := s₂.heap, slotsUsed := s₂.slotsUsed } : State).setVm s₂.vm := by
      have : s₂ = ({ s₂ with vm := (U.calling g mk a).vm } : State).setVm s₂.vm := rfl
      rw [e2] at this
      exact this
    have hf₂ : s₂.frames = .throwing q :: .java g :: U.frames.tail := hend
    have hW' : U.WarmedH s₂.vm := hW₂
    have hs₂ : s₂ = ((({ U with heap := s₂.heap, slotsUsed := s₂.slotsUsed } : State).setVm s₂.vm).setTop g).pushFrame (.throwing q) := by
      refine e3.trans ?_
      rw [hf₂, State.calling_eq h.top, State.setFrames_setFrames, State.pushFrame, State.frames_setTop _ hr', State.setTop_of_frames _ hr', State.setFrames_setFrames, hr]
      rfl
    have hsame : U.sameButNew ({ U with heap := s₂.heap, slotsUsed := s₂.slotsUsed } : State) L mc ms := by
      refine ⟨?_, q2, q3, q4, q5, q6⟩
      obtain ⟨t, ht, -⟩ := State.frames_cons hr
      show ({ U with heap := s₂.heap, slotsUsed := s₂.slotsUsed } : State) = { U.setFrames U.frames with heap := s₂.heap, slotsUsed := s₂.slotsUsed }
      rw [State.setFrames_self ht]
    subst hg
    refine Or.inr ⟨q, ⟨(({ U with heap := s₂.heap, slotsUsed := s₂.slotsUsed } : State).setVm s₂.vm), Ls ++ L, c0 + mc, s0 + ms⟩,
      ⟨X.admits, X.cas, X.clock, X.frames, X.room, X.hears, X.method, X.code, (X.here.setHeapUsed s₂.heap s₂.slotsUsed).setVm hW'.alike, X.tail, State.WarmedH.trans X.warmed hW', X.limits, X.bytes, X.same.trans (hsame.setVm s.vm)⟩,
      ⟨g, mk, s₂, L, E, ce, rfl, rfl, hx, hce, hcv, hcl, rfl, hL, rfl, rfl⟩, ?_⟩
    show Steps p.tables e below _ (((({ U with heap := s₂.heap, slotsUsed := s₂.slotsUsed } : State).setVm s₂.vm).setTop g).pushFrame (.throwing q))
    rw [← hs₂]
    exact hsteps
end
variable {p : Program} {l : Launch} {e : Env} {R : Room} {s : State} {m : MethodId} {args : Array Value} {below : List Frame} {meth : Method} {c : Code} {T : State} {H : Heap} {locs : List Loc} {cells slots : Nat}
theorem vx_callVX (X : Stand p l e R s m args below meth c T locs cells slots) (hexec : p.tables.exec = Jvm.exec) {own C : String} {index : Nat} {y : MethodName} {bytes : ByteArray} {maxL : Nat} {ret : Option FieldType} {hh : List (Nat × Nat × Nat × Nat)}
    (hown : s.vm.findClass own = some m.cls) (hlink : (Cond.methodLink own index y).before args s = true) (hinst : (Cond.instanceMethod y).before args s = true) (hsel : (Cond.selects C y y).before args s = true)
    (hcode : (Cond.codeWith y bytes maxL ret hh).before args s = true) (hy : y.cls ≠ "java/lang/invoke/MethodHandle" ∧ y.cls ≠ "java/lang/invoke/VarHandle")
    {W9 : Nat} {Pre : Pt → Array Value → Prop} {Post : Pt → Array Value → Option Value → Pt → Prop} {PostX : Pt → Array Value → Addr → Pt → Prop} (hK : vx_Back l R p e below s args y 3 W9 Pre Post PostX)
    {b : Addr} {cellB : Cell} (hcell : T.heap[b]? = some cellB) (hobj : cellB.vm.isStatics = false) (hcls : s.vm.findClass C = some cellB.cls)
    {g : JFrame} (hg : g.method = m) (hsize : g.locals.size = c.maxLocals) {argsL rest : List Value} (hlen : ∀ sig, parseMethodDescriptor y.desc = some sig → argsL.length = sig.parameters.length)
    (hstack : g.stack = argsL.reverse ++ .ref b :: rest) (hW : 2 * g.monitorRoom + (rest.map fun v => v.category).sum ≤ W9) (hdg : decode c.code g.pc = .ok (.invokevirtual index, 3))
    (hpre : ∀ vm₁, s.WarmedH vm₁ → Pre ⟨T.setVm vm₁, locs, cells, slots⟩ (Value.ref b :: argsL).toArray) :
    (∃ (v : Option Value) (vm₁ : Vm) (B : Pt), s.WarmedH vm₁ ∧ Stand p l e R s m args below meth c B.U B.locs B.cells B.slots ∧ Post ⟨T.setVm vm₁, locs, cells, slots⟩ (Value.ref b :: argsL).toArray v B ∧
      ∀ target, Steps p.tables e below (B.U.setTop { g with pc := g.pc + 3, stack := v.toList ++ rest }) target → Steps p.tables e below (T.setTop g) target) ∨
    (∃ (q : Addr) (vm₁ : Vm) (B : Pt), s.WarmedH vm₁ ∧ Stand p l e R s m args below meth c B.U B.locs B.cells B.slots ∧ PostX ⟨T.setVm vm₁, locs, cells, slots⟩ (Value.ref b :: argsL).toArray q B ∧
      Steps p.tables e below (T.setTop g) ((B.U.setTop { g with stack := rest }).pushFrame (.throwing q))) := by
  obtain ⟨mk, methM, hnamed, hmethM, hstM, habM⟩ := Cond.instanceMethod_spec hinst
  obtain ⟨m8, methM', cM, hn8, hmethM', -, -, -, -, -, -, hsigM⟩ := Cond.codeWith_spec hcode
  cases Option.some.inj (hn8.symm.trans hnamed)
  cases hmethM.symm.trans hmethM'
  obtain ⟨c2, r2, m2, q1, q2, q3, q4, kP, hkP, hkPi⟩ := Cond.selects_spec hsel
  cases hcls.symm.trans q1
  cases (State.methodFound?_of_named hnamed hy).symm.trans q2
  cases hnamed.symm.trans q3
  have hselP : selectMethod e.platform s.vm cellB.cls mk = .method mk := by rw [Launch.admits_selectMethod X.admits]; exact q4
  obtain ⟨vm₁, X₁, hstep₁⟩ := X.invokevirtual hexec hown hlink hnamed hmethM hstM hkP hkPi hy (a := b) (cell := cellB) hcell
    (fun z h => by rw [h] at hobj; cases hobj) hselP hmethM habM hkP hkPi (g := g) hg (argsL := argsL) (rest := rest) (hlen _ hsigM) hstack hdg
  rcases hK m meth c ⟨T.setVm vm₁, locs, cells, slots⟩ { g with stack := rest } (.invokevirtual index) mk (Value.ref b :: argsL).toArray X₁ hg hsize hdg hW (X₁.named hnamed) (hpre vm₁ X₁.warmed) with ⟨v, B, X', hpost, hsteps⟩ | ⟨q, B, X', hpost, hsteps⟩
  · exact Or.inl ⟨v, vm₁, B, X₁.warmed, X', hpost, fun target h => hstep₁ _ fun acts => by rw [doInvoke_state]; exact hsteps.trans h⟩
  · exact Or.inr ⟨q, vm₁, B, X₁.warmed, X', hpost, hstep₁ _ fun acts => by rw [doInvoke_state]; exact hsteps⟩
theorem vx_callSX (X : Stand p l e R s m args below meth c T locs cells slots) (hexec : p.tables.exec = Jvm.exec) {own : String} {index : Nat} {y : MethodName} {bytes : ByteArray} {maxL : Nat} {ret : Option FieldType} {hh : List (Nat × Nat × Nat × Nat)}
    (hown : s.vm.findClass own = some m.cls) (hlink : (Cond.methodLink own index y).before args s = true) (hstat : (Cond.static y).before args s = true) (hinit : (Cond.initialized y.cls).before args s = true)
    (hcode : (Cond.codeWith y bytes maxL ret hh).before args s = true) (hy : y.cls ≠ "java/lang/invoke/MethodHandle" ∧ y.cls ≠ "java/lang/invoke/VarHandle")
    {W9 : Nat} {Pre : Pt → Array Value → Prop} {Post : Pt → Array Value → Option Value → Pt → Prop} {PostX : Pt → Array Value → Addr → Pt → Prop} (hK : vx_Back l R p e below s args y 3 W9 Pre Post PostX)
    {g : JFrame} (hg : g.method = m) (hsize : g.locals.size = c.maxLocals) {argsL rest : List Value} (hlen : ∀ sig, parseMethodDescriptor y.desc = some sig → argsL.length = sig.parameters.length)
    (hstack : g.stack = argsL.reverse ++ rest) (hW : 2 * g.monitorRoom + (rest.map fun v => v.category).sum ≤ W9) (hdg : decode c.code g.pc = .ok (.invokestatic index, 3))
    (hpre : ∀ vm₁, s.WarmedH vm₁ → Pre ⟨T.setVm vm₁, locs, cells, slots⟩ argsL.toArray) :
    (∃ (v : Option Value) (vm₁ : Vm) (B : Pt), s.WarmedH vm₁ ∧ Stand p l e R s m args below meth c B.U B.locs B.cells B.slots ∧ Post ⟨T.setVm vm₁, locs, cells, slots⟩ argsL.toArray v B ∧
      ∀ target, Steps p.tables e below (B.U.setTop { g with pc := g.pc + 3, stack := v.toList ++ rest }) target → Steps p.tables e below (T.setTop g) target) ∨
    (∃ (q : Addr) (vm₁ : Vm) (B : Pt), s.WarmedH vm₁ ∧ Stand p l e R s m args below meth c B.U B.locs B.cells B.slots ∧ PostX ⟨T.setVm vm₁, locs, cells, slots⟩ argsL.toArray q B ∧
      Steps p.tables e below (T.setTop g) ((B.U.setTop { g with stack := rest }).pushFrame (.throwing q))) := by
  obtain ⟨mk, methM, cM, hnamed, hmethM, -, -, -, -, -, -, hsigM⟩ := Cond.codeWith_spec hcode
  have hstatic : methM.isStatic = true := Cond.static_spec hnamed hmethM hstat
  obtain ⟨kP, hkP, -⟩ := className_of_methodNamed hnamed
  have hinitP : kP.init = .initialized := Cond.initialized_spec (findClass_of_methodNamed hnamed) hkP hinit
  obtain ⟨vm₁, X₁, hstep₁⟩ := X.invokestatic hexec hown hlink hnamed hmethM hstatic hkP hinitP hy (g := g) hg (argsL := argsL) (rest := rest) (hlen _ hsigM) hstack hdg
  rcases hK m meth c ⟨T.setVm vm₁, locs, cells, slots⟩ { g with stack := rest } (.invokestatic index) mk argsL.toArray X₁ hg hsize hdg hW (X₁.named hnamed) (hpre vm₁ X₁.warmed) with ⟨v, B, X', hpost, hsteps⟩ | ⟨q, B, X', hpost, hsteps⟩
  · exact Or.inl ⟨v, vm₁, B, X₁.warmed, X', hpost, fun target h => hstep₁ _ fun acts => by rw [doInvoke_state]; exact hsteps.trans h⟩
  · exact Or.inr ⟨q, vm₁, B, X₁.warmed, X', hpost, hstep₁ _ fun acts => by rw [doInvoke_state]; exact hsteps⟩
theorem vx_callVW (X : Stand p l e R s m args below meth c T locs cells slots) (hexec : p.tables.exec = Jvm.exec) {own C : String} {index : Nat} {y : MethodName} {bytes : ByteArray} {maxL : Nat} {ret : Option FieldType} {hh : List (Nat × Nat × Nat × Nat)}
    (hown : s.vm.findClass own = some m.cls) (hlink : (Cond.methodLink own index y).before args s = true) (hinst : (Cond.instanceMethod y).before args s = true) (hsel : (Cond.selects C y y).before args s = true)
    (hcode : (Cond.codeWith y bytes maxL ret hh).before args s = true) (hy : y.cls ≠ "java/lang/invoke/MethodHandle" ∧ y.cls ≠ "java/lang/invoke/VarHandle")
    {W9 : Nat} {Pre : Pt → Array Value → Prop} {Post : Pt → Array Value → Option Value → Pt → Prop} (hK : Back l R p e below s args y 3 W9 Pre Post)
    {b : Addr} {cellB : Cell} (hcell : T.heap[b]? = some cellB) (hobj : cellB.vm.isStatics = false) (hcls : s.vm.findClass C = some cellB.cls)
    {g : JFrame} (hg : g.method = m) (hsize : g.locals.size = c.maxLocals) {argsL rest : List Value} (hlen : ∀ sig, parseMethodDescriptor y.desc = some sig → argsL.length = sig.parameters.length)
    (hstack : g.stack = argsL.reverse ++ .ref b :: rest) (hW : 2 * g.monitorRoom + (rest.map fun v => v.category).sum ≤ W9) (hdg : decode c.code g.pc = .ok (.invokevirtual index, 3))
    (hpre : ∀ vm₁, s.WarmedH vm₁ → Pre ⟨T.setVm vm₁, locs, cells, slots⟩ (Value.ref b :: argsL).toArray) :
    ∃ (v : Option Value) (vm₁ : Vm) (B : Pt), s.WarmedH vm₁ ∧ Stand p l e R s m args below meth c B.U B.locs B.cells B.slots ∧ Post ⟨T.setVm vm₁, locs, cells, slots⟩ (Value.ref b :: argsL).toArray v B ∧
      ∀ target, Steps p.tables e below (B.U.setTop { g with pc := g.pc + 3, stack := v.toList ++ rest }) target → Steps p.tables e below (T.setTop g) target := by
  obtain ⟨mk, methM, hnamed, hmethM, hstM, habM⟩ := Cond.instanceMethod_spec hinst
  obtain ⟨m8, methM', cM, hn8, hmethM', -, -, -, -, -, -, hsigM⟩ := Cond.codeWith_spec hcode
  cases Option.some.inj (hn8.symm.trans hnamed)
  cases hmethM.symm.trans hmethM'
  obtain ⟨c2, r2, m2, q1, q2, q3, q4, kP, hkP, hkPi⟩ := Cond.selects_spec hsel
  cases hcls.symm.trans q1
  cases (State.methodFound?_of_named hnamed hy).symm.trans q2
  cases hnamed.symm.trans q3
  have hselP : selectMethod e.platform s.vm cellB.cls mk = .method mk := by rw [Launch.admits_selectMethod X.admits]; exact q4
  obtain ⟨vm₁, X₁, hstep₁⟩ := X.invokevirtual hexec hown hlink hnamed hmethM hstM hkP hkPi hy (a := b) (cell := cellB) hcell
    (fun z h => by rw [h] at hobj; cases hobj) hselP hmethM habM hkP hkPi (g := g) hg (argsL := argsL) (rest := rest) (hlen _ hsigM) hstack hdg
  obtain ⟨v, B, X', hpost, hsteps⟩ := hK m meth c ⟨T.setVm vm₁, locs, cells, slots⟩ { g with stack := rest } (.invokevirtual index) mk (Value.ref b :: argsL).toArray X₁ hg hsize hdg hW (X₁.named hnamed) (hpre vm₁ X₁.warmed)
  exact ⟨v, vm₁, B, X₁.warmed, X', hpost, fun target h => hstep₁ _ fun acts => by rw [doInvoke_state]; exact hsteps.trans h⟩
abbrev vx_CVW (R : Room) (s : State) (args : Array Value) (own C : String) (index : Nat) (y : MethodName) (bytes : ByteArray) (maxL : Nat) (ret : Option FieldType) (hh : List (Nat × Nat × Nat × Nat)) (ws : List Cond) (rm : Room) (mc ms n : Nat) : Prop :=
  (rm.cells = mc ∧ rm.slots = ms ∧ rm.frames + 1 ≤ R.frames ∧ 8 + (maxL + 11) + rm.locals ≤ R.locals ∧ (∀ w ∈ ws, ∀ (a' : Array Value) (U : State), s.WarmedH U.vm → w.before a' U = true) ∧ Cond.codeWith y bytes maxL ret hh ∈ ws) ∧
  (Cond.codeWith y bytes maxL ret hh).before args s = true ∧ (Cond.initialized y.cls).before args s = true ∧ (y.cls ≠ "java/lang/invoke/MethodHandle" ∧ y.cls ≠ "java/lang/invoke/VarHandle") ∧
  (∀ sig, parseMethodDescriptor y.desc = some sig → n = sig.parameters.length) ∧ (Cond.methodLink own index y).before args s = true ∧ (Cond.instanceMethod y).before args s = true ∧ (Cond.selects C y y).before args s = true
theorem vx_cwVW {own C : String} {index maxL mc ms : Nat} {y : MethodName} {bytes : ByteArray} {ret : Option FieldType} {hh : List (Nat × Nat × Nat × Nat)} {Ts ws ws' : List Cond} {rm : Room} (n : Nat) (ht : ∀ w ∈ Ts, w.before args s = true) (hT : GoodIn Ts (wsV own index C y ws)) (hw : ws = Cond.codeWith y bytes maxL ret hh :: ws') (hrc : rm.cells = mc) (hrs : rm.slots = ms)
    (hd : y.cls = C ∧ y.cls ≠ "java/lang/invoke/MethodHandle" ∧ y.cls ≠ "java/lang/invoke/VarHandle" ∧ (parseMethodDescriptor y.desc).map (fun d => d.parameters.length) = some n) (hR : rm.frames + 1 ≤ R.frames ∧ 8 + (maxL + 11) + rm.locals ≤ R.locals) :
    vx_CVW R s args own C index y bytes maxL ret hh ws rm mc ms n := by
  obtain ⟨hC, hd⟩ := hd
  subst hC
  have ok : ∀ w ∈ wsV own index y.cls y ws, w.before args s = true := fun w h => ht w (hT w h).1
  have hG : GoodIn Ts ws := fun w h => hT w (by unfold wsV; exact List.mem_append_right _ h)
  have hc : Cond.codeWith y bytes maxL ret hh ∈ ws := by rw [hw]; exact List.mem_cons_self
  refine ⟨⟨hrc, hrs, hR.1, hR.2, pay_in ht hG, hc⟩, ht _ (hG _ hc).1, ok _ (by simp [wsV]), ⟨hd.1, hd.2.1⟩, fun sig h => ?_, ok _ (by simp [wsV]), ok _ (by simp [wsV]), ok _ (by simp [wsV])⟩
  have h2 := hd.2.2
  rw [h] at h2
  exact (Option.some.inj h2).symm
theorem vx_runVW {y : MethodName} {bytes cc : ByteArray} {maxL nL mc ms n index : Nat} {ret : Option FieldType} {hh : List (Nat × Nat × Nat × Nat)} {ws : List Cond} {rm : Room} {Pc : Array Value → State → Prop} {Qc : Array Value → State → Outcome → State → Prop} {free : Addr → Prop} {Ts : List Cond} {own C : String} {b : Addr} {As rest : List Value} {g : JFrame}
    (S : CallFix p m c cc nL s args Ts own) (hM : Met l y ws rm Pc Qc mc ms free) (cw : vx_CVW R s args own C index y bytes maxL ret hh ws rm mc ms n) (hp : PreV s H C b Pc As)
    (hg : g.method = m) (hn : As.length = n) (hsize : g.locals.size = nL) (hstack : g.stack = As.reverse ++ .ref b :: rest) (hW : 2 * g.monitorRoom + (rest.map fun v => v.category).sum ≤ 8) (hdg : decode cc g.pc = .ok (.invokevirtual index, 3)) (hf : cells + mc ≤ R.cells ∧ slots + ms ≤ R.slots) :
    va_Run p l e R s m args below meth c H locs cells slots mc ms g rest (Qc (Value.ref b :: As).toArray) free := by
  obtain ⟨⟨hrc, hrs, hfr, hlo, hws, hcw⟩, hcode, hini, hy, hlen, hl, hin, hse⟩ := cw
  have hK : Back l R p e below s args y 3 8 (PreOf R mc ms Pc) (PostOf Qc mc ms free) := va_backW (hh := hh) (bytes := bytes) (maxL := maxL) (ret := ret) hM hp.1 hrc hrs hfr hlo hws hcw (fun a' U hW => word_at hW (Or.inl (by first | rfl | simp [Cond.onTables, Cond.keeps, Cond.steady])) hini)
  obtain ⟨hx, hb, hml, ho, -⟩ := S
  obtain ⟨-, ⟨cellB, hcB, hoB, hclB⟩, hPc⟩ := hp
  intro T hT X
  obtain ⟨v, vm₁, ⟨U', l2, c2, s2⟩, hW₁, X', ⟨g', mk, t, L, e1, e2, hq, h1, hL, h2, h3⟩, st⟩ := vx_callVW X hx (C := C) (hh := hh) (bytes := bytes) (maxL := maxL) (ret := ret) ho hl hin hse hcode hy hK (by rw [hT]; exact hcB) hoB hclB hg (hsize.trans hml.symm) (argsL := As) (rest := rest) (fun sig h => hn.trans (hlen sig h)) hstack hW (by rw [hb]; exact hdg)
    (fun vm₁ hW₁ => ⟨hf.1, hf.2, hPc (T.setVm vm₁) hT hW₁⟩)
  dsimp only [Pt.U, Pt.locs, Pt.cells, Pt.slots] at X' e1 e2 h1 h2 h3 st
  subst h1; subst h2; subst h3
  exact ⟨v, (T.setVm vm₁).calling g' mk (Value.ref b :: As).toArray, t, U', L, hT, X', hL, e1, e2, hq, st⟩
section
variable {y : MethodName} {bytes cc : ByteArray} {maxL nL mc ms n index : Nat} {ret : Option FieldType} {ws : List Cond} {rm : Room} {Pc : Array Value → State → Prop} {Qc : Array Value → State → Outcome → State → Prop} {XC : String → State → State → Prop} {free : Addr → Prop} {Ts : List Cond} {own C : String} {b : Addr} {As rest : List Value} {g : JFrame}
theorem vx_runVX {hh : List (Nat × Nat × Nat × Nat)} (S : CallFix p m c cc nL s args Ts own) (hM : vx_Met l y ws rm Pc Qc XC mc ms free) (cw : vx_CVW R s args own C index y bytes maxL ret hh ws rm mc ms n) (hp : PreV s H C b Pc As)
    (hg : g.method = m) (hn : As.length = n) (hsize : g.locals.size = nL) (hstack : g.stack = As.reverse ++ .ref b :: rest) (hW : 2 * g.monitorRoom + (rest.map fun v => v.category).sum ≤ 8) (hdg : decode cc g.pc = .ok (.invokevirtual index, 3)) (hf : cells + mc ≤ R.cells ∧ slots + ms ≤ R.slots) :
    vx_Run p l e R s m args below meth c H locs cells slots mc ms g rest (Qc (Value.ref b :: As).toArray) XC free := by
  obtain ⟨⟨hrc, hrs, hfr, hlo, hws, hcw⟩, hcode, hini, hy, hlen, hl, hin, hse⟩ := cw
  have hK : vx_Back l R p e below s args y 3 8 (PreOf R mc ms Pc) (PostOf Qc mc ms free) (vx_Post XC mc ms free) := vx_backW (hh := hh) (bytes := bytes) (maxL := maxL) (ret := ret) hM hp.1 hrc hrs hfr hlo hws hcw (fun a' U hW => word_at hW (Or.inl (by first | rfl | simp [Cond.onTables, Cond.keeps, Cond.steady])) hini)
  obtain ⟨hx, hb, hml, ho, -⟩ := S
  obtain ⟨-, ⟨cellB, hcB, hoB, hclB⟩, hPc⟩ := hp
  intro T hT X
  rcases vx_callVX X hx (C := C) (hh := hh) (bytes := bytes) (maxL := maxL) (ret := ret) ho hl hin hse hcode hy hK (by rw [hT]; exact hcB) hoB hclB hg (hsize.trans hml.symm) (argsL := As) (rest := rest) (fun sig h => hn.trans (hlen sig h)) hstack hW (by rw [hb]; exact hdg)
    (fun vm₁ hW₁ => ⟨hf.1, hf.2, hPc (T.setVm vm₁) hT hW₁⟩) with ⟨v, vm₁, ⟨U', l2, c2, s2⟩, hW₁, X', ⟨g', mk, t, L, e1, e2, hq, h1, hL, h2, h3⟩, st⟩ | ⟨q, vm₁, ⟨U', l2, c2, s2⟩, hW₁, X', ⟨g', mk, t, L, E, ce, e1, e2, hq, hce, hcv, hcl, h1, hL, h2, h3⟩, st⟩
  · dsimp only [Pt.U, Pt.locs, Pt.cells, Pt.slots] at X' e1 e2 h1 h2 h3 st
    subst h1; subst h2; subst h3
    exact Or.inl ⟨v, (T.setVm vm₁).calling g' mk (Value.ref b :: As).toArray, t, U', L, hT, X', hL, e1, e2, hq, st⟩
  · dsimp only [Pt.U, Pt.locs, Pt.cells, Pt.slots] at X' e1 e2 h1 h2 h3 st hcl
    subst h1; subst h2; subst h3
    exact Or.inr ⟨q, (T.setVm vm₁).calling g' mk (Value.ref b :: As).toArray, t, U', L, E, ce, hT, X', hL, e1, e2, hq, hce, hcv, vx_cls hW₁ hcl, st⟩
theorem vx_runSX {hh : List (Nat × Nat × Nat × Nat)} (S : CallFix p m c cc nL s args Ts own) (hM : vx_Met l y ws rm Pc Qc XC mc ms free) (cw : vx_CSW R s args own index y bytes maxL ret hh ws rm mc ms n) (hp : PreS s H Pc As)
    (hg : g.method = m) (hn : As.length = n) (hsize : g.locals.size = nL) (hstack : g.stack = As.reverse ++ rest) (hW : 2 * g.monitorRoom + (rest.map fun v => v.category).sum ≤ 8) (hdg : decode cc g.pc = .ok (.invokestatic index, 3)) (hf : cells + mc ≤ R.cells ∧ slots + ms ≤ R.slots) :
    vx_Run p l e R s m args below meth c H locs cells slots mc ms g rest (Qc As.toArray) XC free := by
  obtain ⟨⟨hrc, hrs, hfr, hlo, hws, hcw⟩, hcode, hini, hy, hlen, hl, hstt⟩ := cw
  have hK : vx_Back l R p e below s args y 3 8 (PreOf R mc ms Pc) (PostOf Qc mc ms free) (vx_Post XC mc ms free) := vx_backW (hh := hh) (bytes := bytes) (maxL := maxL) (ret := ret) hM hp.1 hrc hrs hfr hlo hws hcw (fun a' U hW => word_at hW (Or.inl (by first | rfl | simp [Cond.onTables, Cond.keeps, Cond.steady])) hini)
  obtain ⟨hx, hb, hml, ho, -⟩ := S
  intro T hT X
  rcases vx_callSX X hx (hh := hh) (bytes := bytes) (maxL := maxL) (ret := ret) ho hl hstt hini hcode hy hK hg (hsize.trans hml.symm) (argsL := As) (rest := rest) (fun sig h => hn.trans (hlen sig h)) hstack hW (by rw [hb]; exact hdg)
    (fun vm₁ hW₁ => ⟨hf.1, hf.2, hp.2 (T.setVm vm₁) hT hW₁⟩) with ⟨v, vm₁, ⟨U', l2, c2, s2⟩, hW₁, X', ⟨g', mk, t, L, e1, e2, hq, h1, hL, h2, h3⟩, st⟩ | ⟨q, vm₁, ⟨U', l2, c2, s2⟩, hW₁, X', ⟨g', mk, t, L, E, ce, e1, e2, hq, hce, hcv, hcl, h1, hL, h2, h3⟩, st⟩
  · dsimp only [Pt.U, Pt.locs, Pt.cells, Pt.slots] at X' e1 e2 h1 h2 h3 st
    subst h1; subst h2; subst h3
    exact Or.inl ⟨v, (T.setVm vm₁).calling g' mk As.toArray, t, U', L, hT, X', hL, e1, e2, hq, st⟩
  · dsimp only [Pt.U, Pt.locs, Pt.cells, Pt.slots] at X' e1 e2 h1 h2 h3 st hcl
    subst h1; subst h2; subst h3
    exact Or.inr ⟨q, (T.setVm vm₁).calling g' mk As.toArray, t, U', L, E, ce, hT, X', hL, e1, e2, hq, hce, hcv, vx_cls hW₁ hcl, st⟩
end
end VXH
theorem vx_ofWH {l : Launch} {y : MethodName} {ws ws' : List Cond} {rm : Room} {Pc : Array Value → State → Prop} {Qc : Array Value → State → Outcome → State → Prop} {XC : String → State → State → Prop} {mc ms : Nat} {free : Addr → Prop} {cc : ByteArray} {maxL : Nat} {ret : Option FieldType} {hh : List (Nat × Nat × Nat × Nat)}
    (hy : plainName y.cls = true) (hw : ws = Cond.codeWith y cc maxL ret hh :: ws')
    (body : ∀ p e s m args below meth c s₁, BodyLoose p l y (headSpec ws rm) cc maxL ret e s m args below meth c s₁ → c.maxLocals = maxL → Pc args s →
      W p l e (headSpec ws rm).room s m args below meth c s.heap [] 0 0 (vx_MQ below Qc XC args s mc ms free) (entryFrame m args maxL)) : vx_Met l y ws rm Pc Qc XC mc ms free := by
  refine MetFree.of_bodyS (code := cc) (maxLocals := maxL) (ret := ret) hy ?_ ?_
  · intro args s m h hn
    obtain ⟨m9, meth, c, hn9, h1, h2, h3, h4, -, h5, h6, -⟩ := Cond.codeWith_spec (atoms_spec (ws := ws) h _ (by rw [hw]; exact List.mem_cons_self))
    cases hn.symm.trans hn9
    exact ⟨meth, c, h1, h2, h3, h4, h5, h6⟩
  · intro p e s m args below meth c s₁ B hml hP _
    have hh0 : s₁.heap = s.heap := by rw [B.state]; rfl
    obtain ⟨t, a1, o, b1, b2, b3⟩ := body p e s m args below meth c s₁ B hml hP s₁ hh0 (Stand.of_body B)
    exact ⟨t, o, a1, b1, b2, b3⟩
/-! ===== END ===== -/

/-! ===== BEGIN printed: names, fields, word lists, decode rows ===== -/
def RX0 : String := "PlayCompany$Actor"
def TX0 : u_T := fun k => match k with
  | 0 => ("PlayCompany$Actor", "fee", "I", true)
  | 1 => ("PlayCompany$Actor", "birth", "I", true)
  | 2 => ("PlayCompany$Actor", "joined", "I", true)
  | 3 => ("PlayCompany$Actor", "guest", "Z", true)
  | 4 => ("PlayCompany$Actor", "in", "Z", false)
  | _ => ("PlayCompany$Actor", "grades", "[I", true)
def tyX0 : Nat → FieldType := fun k => match k with
  | 0 => .int
  | 1 => .int
  | 2 => .int
  | 3 => .boolean
  | 4 => .boolean
  | _ => .array .int
abbrev wsX00 : List Cond := u_ws RX0 TX0 6
theorem nmX0 : ∀ a, a < 6 → ∀ b, b < 6 → a ≠ b → (TX0 a).2.1 ≠ (TX0 b).2.1 := by decide +kernel
theorem tyX0_ok : ∀ k, k < 6 → parseFieldDescriptor (TX0 k).2.2.1 = some (tyX0 k) := by decide +kernel
abbrev cX0_init : ByteArray := prog_2_method_1_code
def yX0_init : MethodName := ⟨RX0, "<init>", "(IIIZ)V"⟩
abbrev cX0_reaches : ByteArray := prog_2_method_2_code
def yX0_reaches : MethodName := ⟨RX0, "reaches", "(II)Z"⟩
abbrev cX0_greatestGrade : ByteArray := prog_2_method_3_code
def yX0_greatestGrade : MethodName := ⟨RX0, "greatestGrade", "()I"⟩
def RX1 : String := "PlayCompany$Agreement"
def TX1 : u_T := fun k => match k with
  | 0 => ("PlayCompany$Agreement", "size", "I", false)
  | 1 => ("PlayCompany$Agreement", "words", "[LPlayCompany$Token;", true)
  | 2 => ("PlayCompany$Agreement", "numbers", "[I", true)
  | 3 => ("PlayCompany$Agreement", "stops", "[I", true)
  | 4 => ("PlayCompany$Agreement", "steps", "[I", true)
  | _ => ("PlayCompany$Agreement", "stepCount", "I", false)
def tyX1 : Nat → FieldType := fun k => match k with
  | 0 => .int
  | 1 => .array (.object "PlayCompany$Token")
  | 2 => .array .int
  | 3 => .array .int
  | 4 => .array .int
  | _ => .int
abbrev wsX10 : List Cond := u_ws RX1 TX1 6
theorem nmX1 : ∀ a, a < 6 → ∀ b, b < 6 → a ≠ b → (TX1 a).2.1 ≠ (TX1 b).2.1 := by decide +kernel
theorem tyX1_ok : ∀ k, k < 6 → parseFieldDescriptor (TX1 k).2.2.1 = some (tyX1 k) := by decide +kernel
abbrev cX1_init : ByteArray := prog_3_method_1_code
def yX1_init : MethodName := ⟨RX1, "<init>", "()V"⟩
abbrev cX1_comparison : ByteArray := prog_3_method_2_code
def yX1_comparison : MethodName := ⟨RX1, "comparison", "(III)I"⟩
abbrev cX1_kindOf : ByteArray := prog_3_method_3_code
def yX1_kindOf : MethodName := ⟨RX1, "kindOf", "(I)I"⟩
abbrev cX1_whatOf : ByteArray := prog_3_method_4_code
def yX1_whatOf : MethodName := ⟨RX1, "whatOf", "(I)I"⟩
abbrev cX1_numberOf : ByteArray := prog_3_method_5_code
def yX1_numberOf : MethodName := ⟨RX1, "numberOf", "(I)I"⟩
abbrev cX1_startOf : ByteArray := prog_3_method_6_code
def yX1_startOf : MethodName := ⟨RX1, "startOf", "(I)I"⟩
abbrev cX1_empty : ByteArray := prog_3_method_7_code
def yX1_empty : MethodName := ⟨RX1, "empty", "()V"⟩
abbrev cX1_addTerm : ByteArray := prog_3_method_8_code
def yX1_addTerm : MethodName := ⟨RX1, "addTerm", "(LPlayCompany$Token;I)V"⟩
abbrev cX1_addStep : ByteArray := prog_3_method_9_code
def yX1_addStep : MethodName := ⟨RX1, "addStep", "(I)V"⟩
def RX2 : String := "PlayCompany$CastFinder"
def TX2 : u_T := fun k => match k with
  | 0 => ("PlayCompany$CastFinder", "best", "[J", true)
  | 1 => ("PlayCompany$CastFinder", "partRoles", "[I", true)
  | 2 => ("PlayCompany$CastFinder", "partWorth", "[J", true)
  | _ => ("PlayCompany$CastFinder", "parts", "I", false)
def tyX2 : Nat → FieldType := fun k => match k with
  | 0 => .array .long
  | 1 => .array .int
  | 2 => .array .long
  | _ => .int
abbrev wsX20 : List Cond := u_ws RX2 TX2 4
theorem nmX2 : ∀ a, a < 4 → ∀ b, b < 4 → a ≠ b → (TX2 a).2.1 ≠ (TX2 b).2.1 := by decide +kernel
theorem tyX2_ok : ∀ k, k < 4 → parseFieldDescriptor (TX2 k).2.2.1 = some (tyX2 k) := by decide +kernel
abbrev cX2_init : ByteArray := prog_4_method_1_code
def yX2_init : MethodName := ⟨RX2, "<init>", "()V"⟩
abbrev cX2_filledIn : ByteArray := prog_4_method_2_code
def yX2_filledIn : MethodName := ⟨RX2, "filledIn", "(J)I"⟩
abbrev cX2_keptIn : ByteArray := prog_4_method_3_code
def yX2_keptIn : MethodName := ⟨RX2, "keptIn", "(J)I"⟩
abbrev cX2_actorIn : ByteArray := prog_4_method_4_code
def yX2_actorIn : MethodName := ⟨RX2, "actorIn", "(JI)I"⟩
abbrev cX2_placeOf : ByteArray := prog_4_method_5_code
def yX2_placeOf : MethodName := ⟨RX2, "placeOf", "(I)I"⟩
abbrev cX2_search : ByteArray := prog_4_method_6_code
def yX2_search : MethodName := ⟨RX2, "search", "(LPlayCompany$Play;[LPlayCompany$Actor;J)J"⟩
abbrev cX2_canBeCast : ByteArray := prog_4_method_7_code
def yX2_canBeCast : MethodName := ⟨RX2, "canBeCast", "(LPlayCompany$Play;[LPlayCompany$Actor;)Z"⟩
abbrev cX2_begin : ByteArray := prog_4_method_8_code
def yX2_begin : MethodName := ⟨RX2, "begin", "()V"⟩
abbrev cX2_offer : ByteArray := prog_4_method_9_code
def yX2_offer : MethodName := ⟨RX2, "offer", "(LPlayCompany$Play;LPlayCompany$Actor;IJI)V"⟩
abbrev cX2_listParts : ByteArray := prog_4_method_10_code
def yX2_listParts : MethodName := ⟨RX2, "listParts", "(LPlayCompany$Play;IIJ)V"⟩
abbrev cX2_worthOf : ByteArray := prog_4_method_11_code
def yX2_worthOf : MethodName := ⟨RX2, "worthOf", "(IJJ)J"⟩
abbrev cX2_giveParts : ByteArray := prog_4_method_12_code
def yX2_giveParts : MethodName := ⟨RX2, "giveParts", "(I)V"⟩
def RX3 : String := "PlayCompany$Ledger"
def TX3 : u_T := fun k => match k with
  | 0 => ("PlayCompany$Ledger", "size", "I", false)
  | 1 => ("PlayCompany$Ledger", "items", "[I", true)
  | 2 => ("PlayCompany$Ledger", "days", "[I", true)
  | 3 => ("PlayCompany$Ledger", "holders", "[I", true)
  | _ => ("PlayCompany$Ledger", "latest", "[I", true)
def tyX3 : Nat → FieldType := fun k => match k with
  | 0 => .int
  | 1 => .array .int
  | 2 => .array .int
  | 3 => .array .int
  | _ => .array .int
abbrev wsX30 : List Cond := u_ws RX3 TX3 5
theorem nmX3 : ∀ a, a < 5 → ∀ b, b < 5 → a ≠ b → (TX3 a).2.1 ≠ (TX3 b).2.1 := by decide +kernel
theorem tyX3_ok : ∀ k, k < 5 → parseFieldDescriptor (TX3 k).2.2.1 = some (tyX3 k) := by decide +kernel
abbrev cX3_init : ByteArray := prog_5_method_1_code
def yX3_init : MethodName := ⟨RX3, "<init>", "()V"⟩
abbrev cX3_isItem : ByteArray := prog_5_method_2_code
def yX3_isItem : MethodName := ⟨RX3, "isItem", "(I)Z"⟩
abbrev cX3_isHolder : ByteArray := prog_5_method_3_code
def yX3_isHolder : MethodName := ⟨RX3, "isHolder", "(I)Z"⟩
abbrev cX3_tell : ByteArray := prog_5_method_4_code
def yX3_tell : MethodName := ⟨RX3, "tell", "(III)I"⟩
abbrev cX3_holderOf : ByteArray := prog_5_method_5_code
def yX3_holderOf : MethodName := ⟨RX3, "holderOf", "(III)I"⟩
abbrev cX3_itemsWith : ByteArray := prog_5_method_6_code
def yX3_itemsWith : MethodName := ⟨RX3, "itemsWith", "(II)I"⟩
def RX4 : String := "PlayCompany$Play"
def TX4 : u_T := fun k => match k with
  | 0 => ("PlayCompany$Play", "minutes", "I", true)
  | 1 => ("PlayCompany$Play", "takings", "I", true)
  | 2 => ("PlayCompany$Play", "store", "I", true)
  | 3 => ("PlayCompany$Play", "weight", "I", true)
  | 4 => ("PlayCompany$Play", "roleCount", "I", false)
  | 5 => ("PlayCompany$Play", "needed", "I", false)
  | 6 => ("PlayCompany$Play", "kinds", "[I", true)
  | 7 => ("PlayCompany$Play", "grades", "[I", true)
  | 8 => ("PlayCompany$Play", "pairCount", "I", false)
  | _ => ("PlayCompany$Play", "pairs", "[I", true)
def tyX4 : Nat → FieldType := fun k => match k with
  | 0 => .int
  | 1 => .int
  | 2 => .int
  | 3 => .int
  | 4 => .int
  | 5 => .int
  | 6 => .array .int
  | 7 => .array .int
  | 8 => .int
  | _ => .array .int
abbrev wsX40 : List Cond := u_ws RX4 TX4 10
theorem nmX4 : ∀ a, a < 10 → ∀ b, b < 10 → a ≠ b → (TX4 a).2.1 ≠ (TX4 b).2.1 := by decide +kernel
theorem tyX4_ok : ∀ k, k < 10 → parseFieldDescriptor (TX4 k).2.2.1 = some (tyX4 k) := by decide +kernel
abbrev cX4_init : ByteArray := prog_6_method_1_code
def yX4_init : MethodName := ⟨RX4, "<init>", "(IIII)V"⟩
abbrev cX4_hasRole : ByteArray := prog_6_method_2_code
def yX4_hasRole : MethodName := ⟨RX4, "hasRole", "(I)Z"⟩
abbrev cX4_allRoles : ByteArray := prog_6_method_3_code
def yX4_allRoles : MethodName := ⟨RX4, "allRoles", "()I"⟩
abbrev cX4_addRole : ByteArray := prog_6_method_4_code
def yX4_addRole : MethodName := ⟨RX4, "addRole", "(IIZ)I"⟩
abbrev cX4_addKind : ByteArray := prog_6_method_5_code
def yX4_addKind : MethodName := ⟨RX4, "addKind", "(II)Z"⟩
abbrev cX4_addPair : ByteArray := prog_6_method_6_code
def yX4_addPair : MethodName := ⟨RX4, "addPair", "(II)Z"⟩
abbrev cX4_rolesFor : ByteArray := prog_6_method_7_code
def yX4_rolesFor : MethodName := ⟨RX4, "rolesFor", "(LPlayCompany$Actor;)I"⟩
def RX5 : String := "PlayCompany$TermReader"
def TX5 : u_T := fun k => match k with
  | 0 => ("PlayCompany$TermReader", "tokens", "[LPlayCompany$Token;", true)
  | 1 => ("PlayCompany$TermReader", "places", "[I", true)
  | 2 => ("PlayCompany$TermReader", "numbers", "[I", true)
  | 3 => ("PlayCompany$TermReader", "found", "I", false)
  | 4 => ("PlayCompany$TermReader", "at", "I", false)
  | 5 => ("PlayCompany$TermReader", "faultKind", "I", false)
  | _ => ("PlayCompany$TermReader", "target", "LPlayCompany$Agreement;", false)
def tyX5 : Nat → FieldType := fun k => match k with
  | 0 => .array (.object "PlayCompany$Token")
  | 1 => .array .int
  | 2 => .array .int
  | 3 => .int
  | 4 => .int
  | 5 => .int
  | _ => .object "PlayCompany$Agreement"
abbrev wsX50 : List Cond := u_ws RX5 TX5 7
theorem nmX5 : ∀ a, a < 7 → ∀ b, b < 7 → a ≠ b → (TX5 a).2.1 ≠ (TX5 b).2.1 := by decide +kernel
theorem tyX5_ok : ∀ k, k < 7 → parseFieldDescriptor (TX5 k).2.2.1 = some (tyX5 k) := by decide +kernel
abbrev cX5_init : ByteArray := prog_7_method_1_code
def yX5_init : MethodName := ⟨RX5, "<init>", "()V"⟩
abbrev cX5_read : ByteArray := prog_7_method_2_code
def yX5_read : MethodName := ⟨RX5, "read", "([BILPlayCompany$Agreement;)I"⟩
abbrev cX5_scan : ByteArray := prog_7_method_3_code
def yX5_scan : MethodName := ⟨RX5, "scan", "([BI)V"⟩
abbrev cX5_isBlank : ByteArray := prog_7_method_4_code
def yX5_isBlank : MethodName := ⟨RX5, "isBlank", "(I)Z"⟩
abbrev cX5_isLetter : ByteArray := prog_7_method_5_code
def yX5_isLetter : MethodName := ⟨RX5, "isLetter", "(I)Z"⟩
abbrev cX5_isDigit : ByteArray := prog_7_method_6_code
def yX5_isDigit : MethodName := ⟨RX5, "isDigit", "(I)Z"⟩
abbrev cX5_stopOf : ByteArray := prog_7_method_7_code
def yX5_stopOf : MethodName := ⟨RX5, "stopOf", "([BII)I"⟩
abbrev cX5_addToken : ByteArray := prog_7_method_8_code
def yX5_addToken : MethodName := ⟨RX5, "addToken", "([BII)V"⟩
abbrev cX5_valueOf : ByteArray := prog_7_method_9_code
def yX5_valueOf : MethodName := ⟨RX5, "valueOf", "([BII)I"⟩
abbrev cX5_spelledToken : ByteArray := prog_7_method_10_code
def yX5_spelledToken : MethodName := ⟨RX5, "spelledToken", "([BII)LPlayCompany$Token;"⟩
abbrev cX5_take : ByteArray := prog_7_method_11_code
def yX5_take : MethodName := ⟨RX5, "take", "(LPlayCompany$Token;)Z"⟩
abbrev cX5_readTerm : ByteArray := prog_7_method_12_code
def yX5_readTerm : MethodName := ⟨RX5, "readTerm", "()Z"⟩
abbrev cX5_readAnyOf : ByteArray := prog_7_method_13_code
def yX5_readAnyOf : MethodName := ⟨RX5, "readAnyOf", "(I)Z"⟩
abbrev cX5_readAllOf : ByteArray := prog_7_method_14_code
def yX5_readAllOf : MethodName := ⟨RX5, "readAllOf", "(I)Z"⟩
abbrev cX5_readPart : ByteArray := prog_7_method_15_code
def yX5_readPart : MethodName := ⟨RX5, "readPart", "(I)Z"⟩
abbrev cX5_readSimple : ByteArray := prog_7_method_16_code
def yX5_readSimple : MethodName := ⟨RX5, "readSimple", "()Z"⟩
def RX6 : String := "PlayCompany$Token"
def TX6 : u_T := fun k => match k with
  | _ => ("", "", "", false)
def tyX6 : Nat → FieldType := fun k => match k with
  | _ => .int
abbrev wsX60 : List Cond := u_ws RX6 TX6 0
theorem nmX6 : ∀ a, a < 0 → ∀ b, b < 0 → a ≠ b → (TX6 a).2.1 ≠ (TX6 b).2.1 := by decide +kernel
theorem tyX6_ok : ∀ k, k < 0 → parseFieldDescriptor (TX6 k).2.2.1 = some (tyX6 k) := by decide +kernel
abbrev cX6_opensTerm : ByteArray := prog_8_method_4_code
def yX6_opensTerm : MethodName := ⟨RX6, "opensTerm", "()Z"⟩
abbrev cX6_isSpelled : ByteArray := prog_8_method_5_code
def yX6_isSpelled : MethodName := ⟨RX6, "isSpelled", "([BII)Z"⟩
def RX7 : String := "PlayCompany$WeekPlanner"
def TX7 : u_T := fun k => match k with
  | 0 => ("PlayCompany$WeekPlanner", "members", "[I", true)
  | 1 => ("PlayCompany$WeekPlanner", "change", "[I", true)
  | 2 => ("PlayCompany$WeekPlanner", "behind", "[I", true)
  | 3 => ("PlayCompany$WeekPlanner", "sequence", "[I", true)
  | _ => ("PlayCompany$WeekPlanner", "size", "I", false)
def tyX7 : Nat → FieldType := fun k => match k with
  | 0 => .array .int
  | 1 => .array .int
  | 2 => .array .int
  | 3 => .array .int
  | _ => .int
abbrev wsX70 : List Cond := u_ws RX7 TX7 5
theorem nmX7 : ∀ a, a < 5 → ∀ b, b < 5 → a ≠ b → (TX7 a).2.1 ≠ (TX7 b).2.1 := by decide +kernel
theorem tyX7_ok : ∀ k, k < 5 → parseFieldDescriptor (TX7 k).2.2.1 = some (tyX7 k) := by decide +kernel
abbrev cX7_init : ByteArray := prog_9_method_1_code
def yX7_init : MethodName := ⟨RX7, "<init>", "()V"⟩
abbrev cX7_plan : ByteArray := prog_9_method_2_code
def yX7_plan : MethodName := ⟨RX7, "plan", "([LPlayCompany$Play;I)I"⟩
abbrev cX7_gather : ByteArray := prog_9_method_3_code
def yX7_gather : MethodName := ⟨RX7, "gather", "([LPlayCompany$Play;I)V"⟩
abbrev cX7_weighChanges : ByteArray := prog_9_method_4_code
def yX7_weighChanges : MethodName := ⟨RX7, "weighChanges", "([LPlayCompany$Play;)V"⟩
abbrev cX7_changeBetween : ByteArray := prog_9_method_5_code
def yX7_changeBetween : MethodName := ⟨RX7, "changeBetween", "(LPlayCompany$Play;LPlayCompany$Play;)I"⟩
abbrev cX7_leastBehind : ByteArray := prog_9_method_6_code
def yX7_leastBehind : MethodName := ⟨RX7, "leastBehind", "(II)I"⟩
abbrev cX7_onward : ByteArray := prog_9_method_7_code
def yX7_onward : MethodName := ⟨RX7, "onward", "(III)I"⟩
abbrev cX7_follow : ByteArray := prog_9_method_8_code
def yX7_follow : MethodName := ⟨RX7, "follow", "([LPlayCompany$Play;I)I"⟩
abbrev cX7_bestNext : ByteArray := prog_9_method_9_code
def yX7_bestNext : MethodName := ⟨RX7, "bestNext", "(II)I"⟩
def RX8 : String := "PlayCompany"
def TX8 : u_T := fun k => match k with
  | 0 => ("PlayCompany", "actors", "[LPlayCompany$Actor;", true)
  | 1 => ("PlayCompany", "actorCount", "I", false)
  | 2 => ("PlayCompany", "repertoire", "[LPlayCompany$Play;", true)
  | 3 => ("PlayCompany", "playCount", "I", false)
  | 4 => ("PlayCompany", "finder", "LPlayCompany$CastFinder;", true)
  | 5 => ("PlayCompany", "castPlay", "I", false)
  | 6 => ("PlayCompany", "cast", "J", false)
  | 7 => ("PlayCompany", "planner", "LPlayCompany$WeekPlanner;", true)
  | 8 => ("PlayCompany", "ledger", "LPlayCompany$Ledger;", true)
  | 9 => ("PlayCompany", "tape", "[B", true)
  | 10 => ("PlayCompany", "tapeLength", "I", false)
  | 11 => ("PlayCompany", "reader", "LPlayCompany$TermReader;", true)
  | 12 => ("PlayCompany", "agreed", "LPlayCompany$Agreement;", false)
  | _ => ("PlayCompany", "draft", "LPlayCompany$Agreement;", false)
def tyX8 : Nat → FieldType := fun k => match k with
  | 0 => .array (.object "PlayCompany$Actor")
  | 1 => .int
  | 2 => .array (.object "PlayCompany$Play")
  | 3 => .int
  | 4 => .object "PlayCompany$CastFinder"
  | 5 => .int
  | 6 => .long
  | 7 => .object "PlayCompany$WeekPlanner"
  | 8 => .object "PlayCompany$Ledger"
  | 9 => .array .byte
  | 10 => .int
  | 11 => .object "PlayCompany$TermReader"
  | 12 => .object "PlayCompany$Agreement"
  | _ => .object "PlayCompany$Agreement"
abbrev wsX80 : List Cond := u_ws RX8 TX8 14
theorem nmX8 : ∀ a, a < 14 → ∀ b, b < 14 → a ≠ b → (TX8 a).2.1 ≠ (TX8 b).2.1 := by decide +kernel
theorem tyX8_ok : ∀ k, k < 14 → parseFieldDescriptor (TX8 k).2.2.1 = some (tyX8 k) := by decide +kernel
abbrev cX8_init : ByteArray := prog_1_method_1_code
def yX8_init : MethodName := ⟨RX8, "<init>", "()V"⟩
abbrev cX8_actor : ByteArray := prog_1_method_2_code
def yX8_actor : MethodName := ⟨RX8, "actor", "(IIIZ)I"⟩
abbrev cX8_plays : ByteArray := prog_1_method_3_code
def yX8_plays : MethodName := ⟨RX8, "plays", "(III)Z"⟩
abbrev cX8_comes : ByteArray := prog_1_method_4_code
def yX8_comes : MethodName := ⟨RX8, "comes", "(IZ)Z"⟩
abbrev cX8_play : ByteArray := prog_1_method_5_code
def yX8_play : MethodName := ⟨RX8, "play", "(IIII)I"⟩
abbrev cX8_role : ByteArray := prog_1_method_6_code
def yX8_role : MethodName := ⟨RX8, "role", "(IIIZ)I"⟩
abbrev cX8_does : ByteArray := prog_1_method_7_code
def yX8_does : MethodName := ⟨RX8, "does", "(III)Z"⟩
abbrev cX8_doubles : ByteArray := prog_1_method_8_code
def yX8_doubles : MethodName := ⟨RX8, "doubles", "(III)Z"⟩
abbrev cX8_can : ByteArray := prog_1_method_9_code
def yX8_can : MethodName := ⟨RX8, "can", "(III)I"⟩
abbrev cX8_fit : ByteArray := prog_1_method_10_code
def yX8_fit : MethodName := ⟨RX8, "fit", "(I)I"⟩
abbrev cX8_anew : ByteArray := prog_1_method_11_code
def yX8_anew : MethodName := ⟨RX8, "anew", "()I"⟩
abbrev cX8_hand : ByteArray := prog_1_method_12_code
def yX8_hand : MethodName := ⟨RX8, "hand", "(I)I"⟩
abbrev cX8_playable : ByteArray := prog_1_method_13_code
def yX8_playable : MethodName := ⟨RX8, "playable", "()I"⟩
abbrev cX8_week : ByteArray := prog_1_method_14_code
def yX8_week : MethodName := ⟨RX8, "week", "(I)I"⟩
abbrev cX8_order : ByteArray := prog_1_method_15_code
def yX8_order : MethodName := ⟨RX8, "order", "(I)I"⟩
abbrev cX8_fill : ByteArray := prog_1_method_16_code
def yX8_fill : MethodName := ⟨RX8, "fill", "(I)I"⟩
abbrev cX8_fact : ByteArray := prog_1_method_17_code
def yX8_fact : MethodName := ⟨RX8, "fact", "(III)I"⟩
abbrev cX8_where : ByteArray := prog_1_method_18_code
def yX8_where : MethodName := ⟨RX8, "where", "(III)I"⟩
abbrev cX8_held : ByteArray := prog_1_method_19_code
def yX8_held : MethodName := ⟨RX8, "held", "(II)I"⟩
abbrev cX8_feed : ByteArray := prog_1_method_20_code
def yX8_feed : MethodName := ⟨RX8, "feed", "(IIIII)I"⟩
abbrev cX8_end : ByteArray := prog_1_method_21_code
def yX8_end : MethodName := ⟨RX8, "end", "(I)I"⟩
abbrev cX8_terms : ByteArray := prog_1_method_22_code
def yX8_terms : MethodName := ⟨RX8, "terms", "()I"⟩
abbrev cX8_may : ByteArray := prog_1_method_23_code
def yX8_may : MethodName := ⟨RX8, "may", "(II)I"⟩
abbrev cX8_broken : ByteArray := prog_1_method_24_code
def yX8_broken : MethodName := ⟨RX8, "broken", "(I)I"⟩
abbrev cX8_about : ByteArray := prog_1_method_25_code
def yX8_about : MethodName := ⟨RX8, "about", "(III)I"⟩
abbrev cX8_count : ByteArray := prog_1_method_26_code
def yX8_count : MethodName := ⟨RX8, "count", "(I)I"⟩
abbrev cX8_within : ByteArray := prog_1_method_27_code
def yX8_within : MethodName := ⟨RX8, "within", "(III)Z"⟩
abbrev cX8_isDay : ByteArray := prog_1_method_28_code
def yX8_isDay : MethodName := ⟨RX8, "isDay", "(I)Z"⟩
abbrev cX8_isKind : ByteArray := prog_1_method_29_code
def yX8_isKind : MethodName := ⟨RX8, "isKind", "(I)Z"⟩
abbrev cX8_actorAt : ByteArray := prog_1_method_30_code
def yX8_actorAt : MethodName := ⟨RX8, "actorAt", "(I)LPlayCompany$Actor;"⟩
abbrev cX8_playAt : ByteArray := prog_1_method_31_code
def yX8_playAt : MethodName := ⟨RX8, "playAt", "(I)LPlayCompany$Play;"⟩
abbrev cX8_countIn : ByteArray := prog_1_method_32_code
def yX8_countIn : MethodName := ⟨RX8, "countIn", "()I"⟩
abbrev cX8_firstOf : ByteArray := prog_1_method_33_code
def yX8_firstOf : MethodName := ⟨RX8, "firstOf", "(I)I"⟩
abbrev cX8_minutesOf : ByteArray := prog_1_method_34_code
def yX8_minutesOf : MethodName := ⟨RX8, "minutesOf", "(I)I"⟩
abbrev cX8_takingsOf : ByteArray := prog_1_method_35_code
def yX8_takingsOf : MethodName := ⟨RX8, "takingsOf", "(I)I"⟩
abbrev cX8_isBefore : ByteArray := prog_1_method_36_code
def yX8_isBefore : MethodName := ⟨RX8, "isBefore", "(II)Z"⟩
abbrev cX8_put : ByteArray := prog_1_method_37_code
def yX8_put : MethodName := ⟨RX8, "put", "(I)V"⟩
abbrev cX8_rolesOf : ByteArray := prog_1_method_38_code
def yX8_rolesOf : MethodName := ⟨RX8, "rolesOf", "(I)I"⟩
abbrev cX8_payOf : ByteArray := prog_1_method_39_code
def yX8_payOf : MethodName := ⟨RX8, "payOf", "(II)I"⟩
abbrev cX8_keeps : ByteArray := prog_1_method_40_code
def yX8_keeps : MethodName := ⟨RX8, "keeps", "(II)Z"⟩
abbrev cX8_holds : ByteArray := prog_1_method_41_code
def yX8_holds : MethodName := ⟨RX8, "holds", "(III)Z"⟩
abbrev cX8_comparisonHolds : ByteArray := prog_1_method_42_code
def yX8_comparisonHolds : MethodName := ⟨RX8, "comparisonHolds", "(III)Z"⟩
abbrev cX8_measure : ByteArray := prog_1_method_43_code
def yX8_measure : MethodName := ⟨RX8, "measure", "(III)I"⟩
abbrev cX8_yearsBetween : ByteArray := prog_1_method_44_code
def yX8_yearsBetween : MethodName := ⟨RX8, "yearsBetween", "(II)I"⟩
def RX9 : String := "PlayCompanyModel"
def TX9 : u_T := fun k => match k with
  | 0 => ("PlayCompanyModel", "thrown", "I", false)
  | 1 => ("PlayCompanyModel", "actors", "I", false)
  | 2 => ("PlayCompanyModel", "fee", "[I", true)
  | 3 => ("PlayCompanyModel", "birth", "[I", true)
  | 4 => ("PlayCompanyModel", "joined", "[I", true)
  | 5 => ("PlayCompanyModel", "guest", "[Z", true)
  | 6 => ("PlayCompanyModel", "isIn", "[Z", true)
  | 7 => ("PlayCompanyModel", "grade", "[I", true)
  | 8 => ("PlayCompanyModel", "plays", "I", false)
  | 9 => ("PlayCompanyModel", "minutes", "[I", true)
  | 10 => ("PlayCompanyModel", "takings", "[I", true)
  | 11 => ("PlayCompanyModel", "store", "[I", true)
  | 12 => ("PlayCompanyModel", "weight", "[I", true)
  | 13 => ("PlayCompanyModel", "roles", "[I", true)
  | 14 => ("PlayCompanyModel", "kinds", "[I", true)
  | 15 => ("PlayCompanyModel", "least", "[I", true)
  | 16 => ("PlayCompanyModel", "needed", "[Z", true)
  | 17 => ("PlayCompanyModel", "doubleMany", "[I", true)
  | 18 => ("PlayCompanyModel", "both", "[I", true)
  | 19 => ("PlayCompanyModel", "handPlay", "I", false)
  | 20 => ("PlayCompanyModel", "hand", "[I", true)
  | 21 => ("PlayCompanyModel", "old", "[I", true)
  | 22 => ("PlayCompanyModel", "settled", "I", false)
  | 23 => ("PlayCompanyModel", "has", "[I", true)
  | 24 => ("PlayCompanyModel", "table", "[I", false)
  | 25 => ("PlayCompanyModel", "further", "[I", false)
  | 26 => ("PlayCompanyModel", "bestHands", "I", false)
  | 27 => ("PlayCompanyModel", "bestRoles", "I", false)
  | 28 => ("PlayCompanyModel", "weekMany", "I", false)
  | 29 => ("PlayCompanyModel", "order", "[I", true)
  | 30 => ("PlayCompanyModel", "tried", "[I", true)
  | 31 => ("PlayCompanyModel", "leastWork", "I", false)
  | 32 => ("PlayCompanyModel", "mostTakings", "I", false)
  | 33 => ("PlayCompanyModel", "mostSet", "I", false)
  | 34 => ("PlayCompanyModel", "facts", "I", false)
  | 35 => ("PlayCompanyModel", "factItem", "[I", true)
  | 36 => ("PlayCompanyModel", "factDay", "[I", true)
  | 37 => ("PlayCompanyModel", "factHolder", "[I", true)
  | 38 => ("PlayCompanyModel", "tape", "[B", true)
  | 39 => ("PlayCompanyModel", "taped", "I", false)
  | 40 => ("PlayCompanyModel", "text", "[B", true)
  | 41 => ("PlayCompanyModel", "terms", "I", false)
  | 42 => ("PlayCompanyModel", "kind", "[I", true)
  | 43 => ("PlayCompanyModel", "amount", "[I", true)
  | 44 => ("PlayCompanyModel", "begins", "[I", true)
  | 45 => ("PlayCompanyModel", "newKind", "[I", true)
  | 46 => ("PlayCompanyModel", "newAmount", "[I", true)
  | 47 => ("PlayCompanyModel", "newBegins", "[I", true)
  | 48 => ("PlayCompanyModel", "row", "[B", false)
  | 49 => ("PlayCompanyModel", "size", "I", false)
  | 50 => ("PlayCompanyModel", "at", "I", false)
  | 51 => ("PlayCompanyModel", "place", "I", false)
  | 52 => ("PlayCompanyModel", "sort", "I", false)
  | 53 => ("PlayCompanyModel", "value", "I", false)
  | 54 => ("PlayCompanyModel", "fault", "I", false)
  | 55 => ("PlayCompanyModel", "faultPlace", "I", false)
  | 56 => ("PlayCompanyModel", "reading", "Z", false)
  | 57 => ("PlayCompanyModel", "whose", "I", false)
  | 58 => ("PlayCompanyModel", "when", "J", false)
  | 59 => ("PlayCompanyModel", "readMany", "I", false)
  | _ => ("PlayCompanyModel", "textSize", "I", false)
def tyX9 : Nat → FieldType := fun k => match k with
  | 0 => .int
  | 1 => .int
  | 2 => .array .int
  | 3 => .array .int
  | 4 => .array .int
  | 5 => .array .boolean
  | 6 => .array .boolean
  | 7 => .array .int
  | 8 => .int
  | 9 => .array .int
  | 10 => .array .int
  | 11 => .array .int
  | 12 => .array .int
  | 13 => .array .int
  | 14 => .array .int
  | 15 => .array .int
  | 16 => .array .boolean
  | 17 => .array .int
  | 18 => .array .int
  | 19 => .int
  | 20 => .array .int
  | 21 => .array .int
  | 22 => .int
  | 23 => .array .int
  | 24 => .array .int
  | 25 => .array .int
  | 26 => .int
  | 27 => .int
  | 28 => .int
  | 29 => .array .int
  | 30 => .array .int
  | 31 => .int
  | 32 => .int
  | 33 => .int
  | 34 => .int
  | 35 => .array .int
  | 36 => .array .int
  | 37 => .array .int
  | 38 => .array .byte
  | 39 => .int
  | 40 => .array .byte
  | 41 => .int
  | 42 => .array .int
  | 43 => .array .int
  | 44 => .array .int
  | 45 => .array .int
  | 46 => .array .int
  | 47 => .array .int
  | 48 => .array .byte
  | 49 => .int
  | 50 => .int
  | 51 => .int
  | 52 => .int
  | 53 => .int
  | 54 => .int
  | 55 => .int
  | 56 => .boolean
  | 57 => .int
  | 58 => .long
  | 59 => .int
  | _ => .int
abbrev wsX90 : List Cond := u_ws RX9 TX9 61
theorem nmX9 : ∀ a, a < 61 → ∀ b, b < 61 → a ≠ b → (TX9 a).2.1 ≠ (TX9 b).2.1 := by decide +kernel
theorem tyX9_ok : ∀ k, k < 61 → parseFieldDescriptor (TX9 k).2.2.1 = some (tyX9 k) := by decide +kernel
abbrev cX9_thrown : ByteArray := prog_11_method_1_code
def yX9_thrown : MethodName := ⟨RX9, "thrown", "()I"⟩
abbrev cX9_within : ByteArray := prog_11_method_2_code
def yX9_within : MethodName := ⟨RX9, "within", "(III)Z"⟩
abbrev cX9_init : ByteArray := prog_11_method_3_code
def yX9_init : MethodName := ⟨RX9, "<init>", "()V"⟩
abbrev cX9_actor : ByteArray := prog_11_method_4_code
def yX9_actor : MethodName := ⟨RX9, "actor", "(IIIZ)I"⟩
abbrev cX9_isActor : ByteArray := prog_11_method_5_code
def yX9_isActor : MethodName := ⟨RX9, "isActor", "(I)Z"⟩
abbrev cX9_isPlay : ByteArray := prog_11_method_6_code
def yX9_isPlay : MethodName := ⟨RX9, "isPlay", "(I)Z"⟩
abbrev cX9_isRole : ByteArray := prog_11_method_7_code
def yX9_isRole : MethodName := ⟨RX9, "isRole", "(II)Z"⟩
abbrev cX9_plays : ByteArray := prog_11_method_8_code
def yX9_plays : MethodName := ⟨RX9, "plays", "(III)Z"⟩
abbrev cX9_comes : ByteArray := prog_11_method_9_code
def yX9_comes : MethodName := ⟨RX9, "comes", "(IZ)Z"⟩
abbrev cX9_play : ByteArray := prog_11_method_10_code
def yX9_play : MethodName := ⟨RX9, "play", "(IIII)I"⟩
abbrev cX9_role : ByteArray := prog_11_method_11_code
def yX9_role : MethodName := ⟨RX9, "role", "(IIIZ)I"⟩
abbrev cX9_does : ByteArray := prog_11_method_12_code
def yX9_does : MethodName := ⟨RX9, "does", "(III)Z"⟩
abbrev cX9_doubles : ByteArray := prog_11_method_13_code
def yX9_doubles : MethodName := ⟨RX9, "doubles", "(III)Z"⟩
abbrev cX9_isAble : ByteArray := prog_11_method_14_code
def yX9_isAble : MethodName := ⟨RX9, "isAble", "(III)Z"⟩
abbrev cX9_can : ByteArray := prog_11_method_15_code
def yX9_can : MethodName := ⟨RX9, "can", "(III)I"⟩
abbrev cX9_mayHave : ByteArray := prog_11_method_16_code
def yX9_mayHave : MethodName := ⟨RX9, "mayHave", "(III)Z"⟩
abbrev cX9_change : ByteArray := prog_11_method_17_code
def yX9_change : MethodName := ⟨RX9, "change", "(II)I"⟩
abbrev cX9_goesOn : ByteArray := prog_11_method_18_code
def yX9_goesOn : MethodName := ⟨RX9, "goesOn", "(II)V"⟩
abbrev cX9_works : ByteArray := prog_11_method_19_code
def yX9_works : MethodName := ⟨RX9, "works", "(I)V"⟩
abbrev cX9_isGood : ByteArray := prog_11_method_20_code
def yX9_isGood : MethodName := ⟨RX9, "isGood", "(II)Z"⟩
abbrev cX9_hands : ByteArray := prog_11_method_21_code
def yX9_hands : MethodName := ⟨RX9, "hands", "(II)I"⟩
abbrev cX9_finds : ByteArray := prog_11_method_22_code
def yX9_finds : MethodName := ⟨RX9, "finds", "(I)Z"⟩
abbrev cX9_isAsGood : ByteArray := prog_11_method_23_code
def yX9_isAsGood : MethodName := ⟨RX9, "isAsGood", "(I)Z"⟩
abbrev cX9_casts : ByteArray := prog_11_method_24_code
def yX9_casts : MethodName := ⟨RX9, "casts", "(I)Z"⟩
abbrev cX9_forgetsOld : ByteArray := prog_11_method_25_code
def yX9_forgetsOld : MethodName := ⟨RX9, "forgetsOld", "()V"⟩
abbrev cX9_takes : ByteArray := prog_11_method_26_code
def yX9_takes : MethodName := ⟨RX9, "takes", "(I)V"⟩
abbrev cX9_fit : ByteArray := prog_11_method_27_code
def yX9_fit : MethodName := ⟨RX9, "fit", "(I)I"⟩
abbrev cX9_anew : ByteArray := prog_11_method_28_code
def yX9_anew : MethodName := ⟨RX9, "anew", "()I"⟩
abbrev cX9_hand : ByteArray := prog_11_method_29_code
def yX9_hand : MethodName := ⟨RX9, "hand", "(I)I"⟩
abbrev cX9_isPlayable : ByteArray := prog_11_method_30_code
def yX9_isPlayable : MethodName := ⟨RX9, "isPlayable", "(I)Z"⟩
abbrev cX9_playable : ByteArray := prog_11_method_31_code
def yX9_playable : MethodName := ⟨RX9, "playable", "()I"⟩
abbrev cX9_work : ByteArray := prog_11_method_32_code
def yX9_work : MethodName := ⟨RX9, "work", "(II)I"⟩
abbrev cX9_tries : ByteArray := prog_11_method_33_code
def yX9_tries : MethodName := ⟨RX9, "tries", "(IIII)V"⟩
abbrev cX9_week : ByteArray := prog_11_method_34_code
def yX9_week : MethodName := ⟨RX9, "week", "(I)I"⟩
abbrev cX9_order : ByteArray := prog_11_method_35_code
def yX9_order : MethodName := ⟨RX9, "order", "(I)I"⟩
abbrev cX9_fills : ByteArray := prog_11_method_36_code
def yX9_fills : MethodName := ⟨RX9, "fills", "(IIIII)V"⟩
abbrev cX9_fill : ByteArray := prog_11_method_37_code
def yX9_fill : MethodName := ⟨RX9, "fill", "(I)I"⟩
abbrev cX9_fact : ByteArray := prog_11_method_38_code
def yX9_fact : MethodName := ⟨RX9, "fact", "(III)I"⟩
abbrev cX9_holder : ByteArray := prog_11_method_39_code
def yX9_holder : MethodName := ⟨RX9, "holder", "(III)I"⟩
abbrev cX9_where : ByteArray := prog_11_method_40_code
def yX9_where : MethodName := ⟨RX9, "where", "(III)I"⟩
abbrev cX9_held : ByteArray := prog_11_method_41_code
def yX9_held : MethodName := ⟨RX9, "held", "(II)I"⟩
abbrev cX9_feed : ByteArray := prog_11_method_42_code
def yX9_feed : MethodName := ⟨RX9, "feed", "(IIIII)I"⟩
abbrev cX9_end : ByteArray := prog_11_method_43_code
def yX9_end : MethodName := ⟨RX9, "end", "(I)I"⟩
abbrev cX9_see : ByteArray := prog_11_method_44_code
def yX9_see : MethodName := ⟨RX9, "see", "(I)I"⟩
abbrev cX9_isSmall : ByteArray := prog_11_method_45_code
def yX9_isSmall : MethodName := ⟨RX9, "isSmall", "(I)Z"⟩
abbrev cX9_isDigit : ByteArray := prog_11_method_46_code
def yX9_isDigit : MethodName := ⟨RX9, "isDigit", "(I)Z"⟩
abbrev cX9_isLike : ByteArray := prog_11_method_47_code
def yX9_isLike : MethodName := ⟨RX9, "isLike", "(IILjava/lang/String;)Z"⟩
abbrev cX9_word : ByteArray := prog_11_method_48_code
def yX9_word : MethodName := ⟨RX9, "word", "(II)I"⟩
abbrev cX9_next : ByteArray := prog_11_method_49_code
def yX9_next : MethodName := ⟨RX9, "next", "()V"⟩
abbrev cX9_starts : ByteArray := prog_11_method_50_code
def yX9_starts : MethodName := ⟨RX9, "starts", "([BII)V"⟩
abbrev cX9_fails : ByteArray := prog_11_method_51_code
def yX9_fails : MethodName := ⟨RX9, "fails", "(I)V"⟩
abbrev cX9_wants : ByteArray := prog_11_method_52_code
def yX9_wants : MethodName := ⟨RX9, "wants", "(I)V"⟩
abbrev cX9_either : ByteArray := prog_11_method_53_code
def yX9_either : MethodName := ⟨RX9, "either", "(I)Z"⟩
abbrev cX9_all : ByteArray := prog_11_method_54_code
def yX9_all : MethodName := ⟨RX9, "all", "(I)Z"⟩
abbrev cX9_one : ByteArray := prog_11_method_55_code
def yX9_one : MethodName := ⟨RX9, "one", "(I)Z"⟩
abbrev cX9_downwards : ByteArray := prog_11_method_56_code
def yX9_downwards : MethodName := ⟨RX9, "downwards", "(J)J"⟩
abbrev cX9_worth : ByteArray := prog_11_method_57_code
def yX9_worth : MethodName := ⟨RX9, "worth", "(I)J"⟩
abbrev cX9_greatest : ByteArray := prog_11_method_58_code
def yX9_greatest : MethodName := ⟨RX9, "greatest", "(I)I"⟩
abbrev cX9_had : ByteArray := prog_11_method_59_code
def yX9_had : MethodName := ⟨RX9, "had", "(I)I"⟩
abbrev cX9_term : ByteArray := prog_11_method_60_code
def yX9_term : MethodName := ⟨RX9, "term", "()V"⟩
abbrev cX9_terms : ByteArray := prog_11_method_61_code
def yX9_terms : MethodName := ⟨RX9, "terms", "()I"⟩
abbrev cX9_holds : ByteArray := prog_11_method_62_code
def yX9_holds : MethodName := ⟨RX9, "holds", "(III)Z"⟩
abbrev cX9_may : ByteArray := prog_11_method_63_code
def yX9_may : MethodName := ⟨RX9, "may", "(II)I"⟩
abbrev cX9_isKept : ByteArray := prog_11_method_64_code
def yX9_isKept : MethodName := ⟨RX9, "isKept", "(II)Z"⟩
abbrev cX9_broken : ByteArray := prog_11_method_65_code
def yX9_broken : MethodName := ⟨RX9, "broken", "(I)I"⟩
abbrev cX9_paid : ByteArray := prog_11_method_66_code
def yX9_paid : MethodName := ⟨RX9, "paid", "(II)I"⟩
abbrev cX9_about : ByteArray := prog_11_method_67_code
def yX9_about : MethodName := ⟨RX9, "about", "(III)I"⟩
abbrev cX9_count : ByteArray := prog_11_method_68_code
def yX9_count : MethodName := ⟨RX9, "count", "(I)I"⟩
def RJx29ce0 : String := "java/lang/Enum"
def TJx29ce0 : u_T := fun k => match k with
  | _ => ("", "", "", false)
def tyJx29ce0 : Nat → FieldType := fun k => match k with
  | _ => .int
abbrev wsJx29ce00 : List Cond := u_ws RJx29ce0 TJx29ce0 0
theorem nmJx29ce0 : ∀ a, a < 0 → ∀ b, b < 0 → a ≠ b → (TJx29ce0 a).2.1 ≠ (TJx29ce0 b).2.1 := by decide +kernel
theorem tyJx29ce0_ok : ∀ k, k < 0 → parseFieldDescriptor (TJx29ce0 k).2.2.1 = some (tyJx29ce0 k) := by decide +kernel
def RJ6 : String := "java/lang/Integer"
def TJ6 : u_T := fun k => match k with
  | _ => ("", "", "", false)
def tyJ6 : Nat → FieldType := fun k => match k with
  | _ => .int
abbrev wsJ60 : List Cond := u_ws RJ6 TJ6 0
theorem nmJ6 : ∀ a, a < 0 → ∀ b, b < 0 → a ≠ b → (TJ6 a).2.1 ≠ (TJ6 b).2.1 := by decide +kernel
theorem tyJ6_ok : ∀ k, k < 0 → parseFieldDescriptor (TJ6 k).2.2.1 = some (tyJ6 k) := by decide +kernel
abbrev cJ6_numberOfLeadingZeros_0f7a4 : ByteArray := prog_14_method_47_code
def yJ6_numberOfLeadingZeros_0f7a4 : MethodName := ⟨RJ6, "numberOfLeadingZeros", "(I)I"⟩
abbrev cJ6_numberOfTrailingZeros_0f7a4 : ByteArray := prog_14_method_48_code
def yJ6_numberOfTrailingZeros_0f7a4 : MethodName := ⟨RJ6, "numberOfTrailingZeros", "(I)I"⟩
abbrev cJ6_bitCount_0f7a4 : ByteArray := prog_14_method_49_code
def yJ6_bitCount_0f7a4 : MethodName := ⟨RJ6, "bitCount", "(I)I"⟩
def RJ9 : String := "java/lang/Math"
def TJ9 : u_T := fun k => match k with
  | _ => ("", "", "", false)
def tyJ9 : Nat → FieldType := fun k => match k with
  | _ => .int
abbrev wsJ90 : List Cond := u_ws RJ9 TJ9 0
theorem nmJ9 : ∀ a, a < 0 → ∀ b, b < 0 → a ≠ b → (TJ9 a).2.1 ≠ (TJ9 b).2.1 := by decide +kernel
theorem tyJ9_ok : ∀ k, k < 0 → parseFieldDescriptor (TJ9 k).2.2.1 = some (tyJ9 k) := by decide +kernel
abbrev cJ9_floorDiv_f86c9 : ByteArray := prog_15_method_49_code
def yJ9_floorDiv_f86c9 : MethodName := ⟨RJ9, "floorDiv", "(JJ)J"⟩
abbrev cJ9_abs_0f7a4 : ByteArray := prog_15_method_59_code
def yJ9_abs_0f7a4 : MethodName := ⟨RJ9, "abs", "(I)I"⟩
abbrev cJ9_max_7cf53 : ByteArray := prog_15_method_65_code
def yJ9_max_7cf53 : MethodName := ⟨RJ9, "max", "(II)I"⟩
abbrev cJ9_max_f86c9 : ByteArray := prog_15_method_66_code
def yJ9_max_f86c9 : MethodName := ⟨RJ9, "max", "(JJ)J"⟩
abbrev cJ9_min_7cf53 : ByteArray := prog_15_method_69_code
def yJ9_min_7cf53 : MethodName := ⟨RJ9, "min", "(II)I"⟩
def RJ0 : String := "java/lang/String"
def TJ0 : u_T := fun k => match k with
  | _ => ("", "", "", false)
def tyJ0 : Nat → FieldType := fun k => match k with
  | _ => .int
abbrev wsJ00 : List Cond := u_ws RJ0 TJ0 0
theorem nmJ0 : ∀ a, a < 0 → ∀ b, b < 0 → a ≠ b → (TJ0 a).2.1 ≠ (TJ0 b).2.1 := by decide +kernel
theorem tyJ0_ok : ∀ k, k < 0 → parseFieldDescriptor (TJ0 k).2.2.1 = some (tyJ0 k) := by decide +kernel
abbrev cJ0_length_8abf5 : ByteArray := prog_17_method_54_code
def yJ0_length_8abf5 : MethodName := ⟨RJ0, "length", "()I"⟩
abbrev cJ0_charAt_5068e : ByteArray := prog_17_method_56_code
def yJ0_charAt_5068e : MethodName := ⟨RJ0, "charAt", "(I)C"⟩
abbrev cJ0_coder_7d493 : ByteArray := prog_17_method_152_code
def yJ0_coder_7d493 : MethodName := ⟨RJ0, "coder", "()B"⟩
abbrev cJ0_isLatin1_aae02 : ByteArray := prog_17_method_154_code
def yJ0_isLatin1_aae02 : MethodName := ⟨RJ0, "isLatin1", "()Z"⟩
abbrev cJ0_checkIndex_df160 : ByteArray := prog_17_method_155_code
def yJ0_checkIndex_df160 : MethodName := ⟨RJ0, "checkIndex", "(II)V"⟩
def RJ1 : String := "java/lang/StringLatin1"
def TJ1 : u_T := fun k => match k with
  | _ => ("", "", "", false)
def tyJ1 : Nat → FieldType := fun k => match k with
  | _ => .int
abbrev wsJ10 : List Cond := u_ws RJ1 TJ1 0
theorem nmJ1 : ∀ a, a < 0 → ∀ b, b < 0 → a ≠ b → (TJ1 a).2.1 ≠ (TJ1 b).2.1 := by decide +kernel
theorem tyJ1_ok : ∀ k, k < 0 → parseFieldDescriptor (TJ1 k).2.2.1 = some (tyJ1 k) := by decide +kernel
abbrev cJ1_charAt_3b067 : ByteArray := prog_18_method_2_code
def yJ1_charAt_3b067 : MethodName := ⟨RJ1, "charAt", "([BI)C"⟩
def RJ2 : String := "java/lang/StringUTF16"
def TJ2 : u_T := fun k => match k with
  | _ => ("", "", "", false)
def tyJ2 : Nat → FieldType := fun k => match k with
  | _ => .int
abbrev wsJ20 : List Cond := u_ws RJ2 TJ2 0
theorem nmJ2 : ∀ a, a < 0 → ∀ b, b < 0 → a ≠ b → (TJ2 a).2.1 ≠ (TJ2 b).2.1 := by decide +kernel
theorem tyJ2_ok : ∀ k, k < 0 → parseFieldDescriptor (TJ2 k).2.2.1 = some (tyJ2 k) := by decide +kernel
abbrev cJ2_getChar_3b067 : ByteArray := prog_19_method_5_code
def yJ2_getChar_3b067 : MethodName := ⟨RJ2, "getChar", "([BI)C"⟩
abbrev cJ2_length_9d52b : ByteArray := prog_19_method_6_code
def yJ2_length_9d52b : MethodName := ⟨RJ2, "length", "([B)I"⟩
abbrev cJ2_charAt_3b067 : ByteArray := prog_19_method_83_code
def yJ2_charAt_3b067 : MethodName := ⟨RJ2, "charAt", "([BI)C"⟩
abbrev cJ2_checkIndex_2214a : ByteArray := prog_19_method_91_code
def yJ2_checkIndex_2214a : MethodName := ⟨RJ2, "checkIndex", "(I[B)V"⟩
def RJ7 : String := "java/util/Arrays"
def TJ7 : u_T := fun k => match k with
  | _ => ("", "", "", false)
def tyJ7 : Nat → FieldType := fun k => match k with
  | _ => .int
abbrev wsJ70 : List Cond := u_ws RJ7 TJ7 0
theorem nmJ7 : ∀ a, a < 0 → ∀ b, b < 0 → a ≠ b → (TJ7 a).2.1 ≠ (TJ7 b).2.1 := by decide +kernel
theorem tyJ7_ok : ∀ k, k < 0 → parseFieldDescriptor (TJ7 k).2.2.1 = some (tyJ7 k) := by decide +kernel
abbrev cJ7_fill_d0a16 : ByteArray := prog_21_method_101_code
def yJ7_fill_d0a16 : MethodName := ⟨RJ7, "fill", "([JJ)V"⟩
abbrev cJ7_fill_53178 : ByteArray := prog_21_method_103_code
def yJ7_fill_53178 : MethodName := ⟨RJ7, "fill", "([II)V"⟩
def RJ3 : String := "jdk/internal/util/Preconditions"
def TJ3 : u_T := fun k => match k with
  | _ => ("", "", "", false)
def tyJ3 : Nat → FieldType := fun k => match k with
  | _ => .int
abbrev wsJ30 : List Cond := u_ws RJ3 TJ3 0
theorem nmJ3 : ∀ a, a < 0 → ∀ b, b < 0 → a ≠ b → (TJ3 a).2.1 ≠ (TJ3 b).2.1 := by decide +kernel
theorem tyJ3_ok : ∀ k, k < 0 → parseFieldDescriptor (TJ3 k).2.2.1 = some (tyJ3 k) := by decide +kernel
abbrev cJ3_checkIndex_8e157 : ByteArray := prog_23_method_11_code
def yJ3_checkIndex_8e157 : MethodName := ⟨RJ3, "checkIndex", "(IILjava/util/function/BiFunction;)I"⟩
def RL : String := "PlayCompanyLaw"
abbrev cL_where : ByteArray := method_3_code
def yL_where : MethodName := ⟨RL, "where", "(LPlayCompany;III[J)I"⟩
abbrev cL_about : ByteArray := method_4_code
def yL_about : MethodName := ⟨RL, "about", "(LPlayCompany;III[J)I"⟩
abbrev cL_law : ByteArray := code
def yL_law : MethodName := ⟨RL, "law", "([I)Z"⟩
abbrev vwCl : List vw_C := [(RX0, TX0, 6), (RX1, TX1, 6), (RX2, TX2, 4), (RX3, TX3, 5), (RX4, TX4, 10), (RX5, TX5, 7), (RX7, TX7, 5), (RX8, TX8, 14), (RX9, TX9, 61)]
end
section
/-! tables: classes, methods, pools, constants; by wip/whole/gentab.py out of the printed claim -/
abbrev AV : Type := Int32 ⊕ (Int64 ⊕ (Option Nat ⊕ Nat))
abbrev vI (x : Int32) : AV := Sum.inl x
abbrev vJ (x : Int64) : AV := Sum.inr (Sum.inl x)
abbrev vA (o : Option Nat) : AV := Sum.inr (Sum.inr (Sum.inl o))
abbrev vX (n : Nat) : AV := Sum.inr (Sum.inr (Sum.inr n))
def cln_ : List String := [RX0, RX1, RX2, RX3, RX4, RX5, RX7, RX8, RX9, RX6, RL, RJ6, RJ9, RJ0, RJ1, RJ2, RJ7, RJ3]
/-- name, bytes, locals, return type, class, where longs lie, arguments (with the receiver), the receiver's kind (99: none), the places of its words: code, instance or static, selects, initialized -/
abbrev MD_ : Type := MethodName × ByteArray × Nat × Option FieldType × Nat × List Nat × Nat × Nat × Nat × Nat × Nat × Nat
def mt0_ : List MD_ := [(yX0_init, cX0_init, 5, none, 0, [], 5, 0, 293, 292, 10068, 77),
  (yX0_reaches, cX0_reaches, 4, (some FieldType.boolean), 0, [], 3, 0, 429, 427, 428, 77),
  (yX0_greatestGrade, cX0_greatestGrade, 3, (some FieldType.int), 0, [], 1, 0, 818, 816, 817, 77),
  (yX1_init, cX1_init, 1, none, 1, [], 1, 1, 207, 206, 10068, 75),
  (yX1_comparison, cX1_comparison, 3, (some FieldType.int), 1, [], 3, 99, 763, 762, 10068, 75),
  (yX1_kindOf, cX1_kindOf, 1, (some FieldType.int), 1, [], 1, 99, 795, 794, 10068, 75),
  (yX1_whatOf, cX1_whatOf, 1, (some FieldType.int), 1, [], 1, 99, 803, 802, 10068, 75),
  (yX1_numberOf, cX1_numberOf, 1, (some FieldType.int), 1, [], 1, 99, 828, 827, 10068, 75),
  (yX1_startOf, cX1_startOf, 2, (some FieldType.int), 1, [], 2, 1, 792, 790, 791, 75),
  (yX1_empty, cX1_empty, 1, none, 1, [], 1, 1, 711, 709, 710, 75),
  (yX1_addTerm, cX1_addTerm, 3, none, 1, [], 3, 1, 736, 734, 735, 75),
  (yX1_addStep, cX1_addStep, 2, none, 1, [], 2, 1, 767, 765, 766, 75),
  (yX2_init, cX2_init, 1, none, 2, [], 1, 2, 108, 107, 10068, 71),
  (yX2_filledIn, cX2_filledIn, 2, (some FieldType.int), 2, [0], 1, 99, 478, 477, 10068, 71),
  (yX2_keptIn, cX2_keptIn, 2, (some FieldType.int), 2, [0], 1, 99, 485, 484, 10068, 71),
  (yX2_actorIn, cX2_actorIn, 4, (some FieldType.int), 2, [0], 2, 99, 492, 491, 10068, 71),
  (yX2_placeOf, cX2_placeOf, 1, (some FieldType.int), 2, [], 1, 99, 464, 463, 10068, 71),
  (yX2_search, cX2_search, 9, (some FieldType.long), 2, [3, 6], 4, 2, 437, 435, 436, 71),
  (yX2_canBeCast, cX2_canBeCast, 4, (some FieldType.boolean), 2, [], 3, 2, 500, 498, 499, 71),
  (yX2_begin, cX2_begin, 1, none, 2, [], 1, 2, 445, 444, 2, 71),
  (yX2_offer, cX2_offer, 7, none, 2, [4], 6, 2, 453, 452, 3, 71),
  (yX2_listParts, cX2_listParts, 8, none, 2, [4], 5, 2, 458, 457, 4, 71),
  (yX2_worthOf, cX2_worthOf, 10, (some FieldType.long), 2, [1, 3, 5], 3, 99, 461, 460, 10068, 71),
  (yX2_giveParts, cX2_giveParts, 7, none, 2, [3], 2, 2, 471, 470, 5, 71),
  (yX3_init, cX3_init, 1, none, 3, [], 1, 3, 153, 152, 10068, 73)]
def mt1_ : List MD_ := [(yX3_isItem, cX3_isItem, 2, (some FieldType.boolean), 3, [], 2, 3, 584, 582, 583, 73),
  (yX3_isHolder, cX3_isHolder, 2, (some FieldType.boolean), 3, [], 2, 3, 589, 587, 588, 73),
  (yX3_tell, cX3_tell, 4, (some FieldType.int), 3, [], 4, 3, 580, 578, 579, 73),
  (yX3_holderOf, cX3_holderOf, 6, (some FieldType.int), 3, [], 4, 3, 920, 918, 919, 73),
  (yX3_itemsWith, cX3_itemsWith, 5, (some FieldType.int), 3, [], 3, 3, 597, 595, 596, 73),
  (yX4_init, cX4_init, 5, none, 4, [], 5, 4, 343, 342, 10068, 78),
  (yX4_hasRole, cX4_hasRole, 2, (some FieldType.boolean), 4, [], 2, 4, 407, 405, 406, 78),
  (yX4_allRoles, cX4_allRoles, 1, (some FieldType.int), 4, [], 1, 4, 441, 439, 440, 78),
  (yX4_addRole, cX4_addRole, 4, (some FieldType.int), 4, [], 4, 4, 395, 393, 394, 78),
  (yX4_addKind, cX4_addKind, 3, (some FieldType.boolean), 4, [], 3, 4, 403, 401, 402, 78),
  (yX4_addPair, cX4_addPair, 5, (some FieldType.boolean), 4, [], 3, 4, 416, 414, 415, 78),
  (yX4_rolesFor, cX4_rolesFor, 4, (some FieldType.int), 4, [], 2, 4, 425, 423, 424, 78),
  (yX5_init, cX5_init, 1, none, 5, [], 1, 5, 176, 175, 10068, 74),
  (yX5_read, cX5_read, 5, (some FieldType.int), 5, [], 4, 5, 620, 618, 619, 74),
  (yX5_scan, cX5_scan, 5, none, 5, [], 3, 5, 624, 623, 16, 74),
  (yX5_isBlank, cX5_isBlank, 1, (some FieldType.boolean), 5, [], 1, 99, 627, 626, 10068, 74),
  (yX5_isLetter, cX5_isLetter, 1, (some FieldType.boolean), 5, [], 1, 99, 633, 632, 10068, 74),
  (yX5_isDigit, cX5_isDigit, 1, (some FieldType.boolean), 5, [], 1, 99, 637, 636, 10068, 74),
  (yX5_stopOf, cX5_stopOf, 4, (some FieldType.int), 5, [], 3, 99, 630, 629, 10068, 74),
  (yX5_addToken, cX5_addToken, 4, none, 5, [], 4, 5, 641, 640, 17, 74),
  (yX5_valueOf, cX5_valueOf, 5, (some FieldType.int), 5, [], 3, 99, 648, 647, 10068, 74),
  (yX5_spelledToken, cX5_spelledToken, 4, (some (FieldType.object "PlayCompany$Token")), 5, [], 3, 99, 651, 650, 10068, 74),
  (yX5_take, cX5_take, 2, (some FieldType.boolean), 5, [], 2, 5, 732, 731, 19, 74),
  (yX5_readTerm, cX5_readTerm, 3, (some FieldType.boolean), 5, [], 1, 5, 715, 714, 18, 74),
  (yX5_readAnyOf, cX5_readAnyOf, 3, (some FieldType.boolean), 5, [], 2, 5, 742, 741, 20, 74)]
def mt2_ : List MD_ := [(yX5_readAllOf, cX5_readAllOf, 3, (some FieldType.boolean), 5, [], 2, 5, 746, 745, 21, 74),
  (yX5_readPart, cX5_readPart, 3, (some FieldType.boolean), 5, [], 2, 5, 750, 749, 22, 74),
  (yX5_readSimple, cX5_readSimple, 4, (some FieldType.boolean), 5, [], 1, 5, 758, 757, 23, 74),
  (yX7_init, cX7_init, 1, none, 6, [], 1, 6, 129, 128, 10068, 72),
  (yX7_plan, cX7_plan, 6, (some FieldType.int), 6, [], 3, 6, 514, 512, 513, 72),
  (yX7_gather, cX7_gather, 4, none, 6, [], 3, 6, 518, 517, 6, 72),
  (yX7_weighChanges, cX7_weighChanges, 4, none, 6, [], 2, 6, 522, 521, 7, 72),
  (yX7_changeBetween, cX7_changeBetween, 3, (some FieldType.int), 6, [], 2, 99, 525, 524, 10068, 72),
  (yX7_leastBehind, cX7_leastBehind, 6, (some FieldType.int), 6, [], 3, 6, 535, 534, 8, 72),
  (yX7_onward, cX7_onward, 4, (some FieldType.int), 6, [], 4, 6, 540, 539, 9, 72),
  (yX7_follow, cX7_follow, 8, (some FieldType.int), 6, [], 3, 6, 544, 543, 10, 72),
  (yX7_bestNext, cX7_bestNext, 6, (some FieldType.int), 6, [], 3, 6, 548, 547, 11, 72),
  (yX8_init, cX8_init, 1, none, 7, [], 1, 7, 96, 95, 10068, 70),
  (yX8_actor, cX8_actor, 5, (some FieldType.int), 7, [], 5, 7, 281, 279, 280, 70),
  (yX8_plays, cX8_plays, 5, (some FieldType.boolean), 7, [], 4, 7, 324, 322, 323, 70),
  (yX8_comes, cX8_comes, 4, (some FieldType.boolean), 7, [], 3, 7, 335, 333, 334, 70),
  (yX8_play, cX8_play, 5, (some FieldType.int), 7, [], 5, 7, 339, 337, 338, 70),
  (yX8_role, cX8_role, 6, (some FieldType.int), 7, [], 5, 7, 387, 385, 386, 70),
  (yX8_does, cX8_does, 5, (some FieldType.boolean), 7, [], 4, 7, 399, 397, 398, 70),
  (yX8_doubles, cX8_doubles, 5, (some FieldType.boolean), 7, [], 4, 7, 412, 410, 411, 70),
  (yX8_can, cX8_can, 6, (some FieldType.int), 7, [], 4, 7, 420, 418, 419, 70),
  (yX8_fit, cX8_fit, 5, (some FieldType.int), 7, [3], 2, 7, 433, 431, 432, 70),
  (yX8_anew, cX8_anew, 5, (some FieldType.int), 7, [2], 1, 7, 482, 480, 481, 70),
  (yX8_hand, cX8_hand, 2, (some FieldType.int), 7, [], 2, 7, 489, 487, 488, 70),
  (yX8_playable, cX8_playable, 4, (some FieldType.int), 7, [], 1, 7, 496, 494, 495, 70)]
def mt3_ : List MD_ := [(yX8_week, cX8_week, 2, (some FieldType.int), 7, [], 2, 7, 504, 502, 503, 70),
  (yX8_order, cX8_order, 2, (some FieldType.int), 7, [], 2, 7, 552, 550, 551, 70),
  (yX8_fill, cX8_fill, 7, (some FieldType.int), 7, [], 2, 7, 556, 554, 555, 70),
  (yX8_fact, cX8_fact, 4, (some FieldType.int), 7, [], 4, 7, 576, 574, 575, 70),
  (yX8_where, cX8_where, 4, (some FieldType.int), 7, [], 4, 7, 854, 852, 853, 70),
  (yX8_held, cX8_held, 3, (some FieldType.int), 7, [], 3, 7, 593, 591, 592, 70),
  (yX8_feed, cX8_feed, 6, (some FieldType.int), 7, [], 6, 7, 604, 602, 603, 70),
  (yX8_end, cX8_end, 2, (some FieldType.int), 7, [], 2, 7, 612, 610, 611, 70),
  (yX8_terms, cX8_terms, 3, (some FieldType.int), 7, [], 1, 7, 616, 614, 615, 70),
  (yX8_may, cX8_may, 4, (some FieldType.int), 7, [], 3, 7, 783, 781, 782, 70),
  (yX8_broken, cX8_broken, 3, (some FieldType.int), 7, [], 2, 7, 832, 830, 831, 70),
  (yX8_about, cX8_about, 4, (some FieldType.int), 7, [], 4, 7, 927, 925, 926, 70),
  (yX8_count, cX8_count, 2, (some FieldType.int), 7, [], 2, 7, 842, 840, 841, 70),
  (yX8_within, cX8_within, 3, (some FieldType.boolean), 7, [], 3, 99, 284, 283, 10068, 70),
  (yX8_isDay, cX8_isDay, 1, (some FieldType.boolean), 7, [], 1, 99, 287, 286, 10068, 70),
  (yX8_isKind, cX8_isKind, 1, (some FieldType.boolean), 7, [], 1, 99, 331, 330, 10068, 70),
  (yX8_actorAt, cX8_actorAt, 2, (some (FieldType.object "PlayCompany$Actor")), 7, [], 2, 7, 328, 327, 0, 70),
  (yX8_playAt, cX8_playAt, 2, (some (FieldType.object "PlayCompany$Play")), 7, [], 2, 7, 391, 390, 1, 70),
  (yX8_countIn, cX8_countIn, 4, (some FieldType.int), 7, [], 1, 7, 846, 845, 29, 70),
  (yX8_firstOf, cX8_firstOf, 4, (some FieldType.int), 7, [], 2, 7, 561, 560, 12, 70),
  (yX8_minutesOf, cX8_minutesOf, 5, (some FieldType.int), 7, [], 2, 7, 565, 564, 13, 70),
  (yX8_takingsOf, cX8_takingsOf, 5, (some FieldType.int), 7, [], 2, 7, 569, 568, 14, 70),
  (yX8_isBefore, cX8_isBefore, 4, (some FieldType.boolean), 7, [], 2, 99, 572, 571, 10068, 70),
  (yX8_put, cX8_put, 3, none, 7, [], 2, 7, 608, 607, 15, 70),
  (yX8_rolesOf, cX8_rolesOf, 4, (some FieldType.int), 7, [], 2, 7, 825, 824, 27, 70)]
def mt4_ : List MD_ := [(yX8_payOf, cX8_payOf, 5, (some FieldType.int), 7, [], 3, 7, 931, 930, 31, 70),
  (yX8_keeps, cX8_keeps, 7, (some FieldType.boolean), 7, [], 3, 7, 836, 835, 28, 70),
  (yX8_holds, cX8_holds, 8, (some FieldType.boolean), 7, [4], 4, 7, 788, 787, 24, 70),
  (yX8_comparisonHolds, cX8_comparisonHolds, 5, (some FieldType.boolean), 7, [], 4, 7, 800, 799, 25, 70),
  (yX8_measure, cX8_measure, 5, (some FieldType.int), 7, [], 4, 7, 807, 806, 26, 70),
  (yX8_yearsBetween, cX8_yearsBetween, 2, (some FieldType.int), 7, [], 2, 99, 810, 809, 10068, 70),
  (yX9_thrown, cX9_thrown, 1, (some FieldType.int), 8, [], 1, 8, 935, 933, 934, 76),
  (yX9_within, cX9_within, 3, (some FieldType.boolean), 8, [], 3, 99, 1133, 1132, 10068, 76),
  (yX9_init, cX9_init, 1, none, 8, [], 1, 8, 940, 939, 10068, 76),
  (yX9_actor, cX9_actor, 6, (some FieldType.int), 8, [], 5, 8, 1130, 1128, 1129, 76),
  (yX9_isActor, cX9_isActor, 2, (some FieldType.boolean), 8, [], 2, 8, 1143, 1142, 32, 76),
  (yX9_isPlay, cX9_isPlay, 2, (some FieldType.boolean), 8, [], 2, 8, 1159, 1158, 33, 76),
  (yX9_isRole, cX9_isRole, 3, (some FieldType.boolean), 8, [], 3, 8, 1167, 1166, 34, 76),
  (yX9_plays, cX9_plays, 4, (some FieldType.boolean), 8, [], 4, 8, 1139, 1137, 1138, 76),
  (yX9_comes, cX9_comes, 3, (some FieldType.boolean), 8, [], 3, 8, 1147, 1145, 1146, 76),
  (yX9_play, cX9_play, 5, (some FieldType.int), 8, [], 5, 8, 1151, 1149, 1150, 76),
  (yX9_role, cX9_role, 6, (some FieldType.int), 8, [], 5, 8, 1155, 1153, 1154, 76),
  (yX9_does, cX9_does, 5, (some FieldType.boolean), 8, [], 4, 8, 1163, 1161, 1162, 76),
  (yX9_doubles, cX9_doubles, 6, (some FieldType.boolean), 8, [], 4, 8, 1171, 1169, 1170, 76),
  (yX9_isAble, cX9_isAble, 5, (some FieldType.boolean), 8, [], 4, 8, 1179, 1178, 35, 76),
  (yX9_can, cX9_can, 4, (some FieldType.int), 8, [], 4, 8, 1175, 1173, 1174, 76),
  (yX9_mayHave, cX9_mayHave, 4, (some FieldType.boolean), 8, [], 4, 8, 1207, 1206, 41, 76),
  (yX9_change, cX9_change, 3, (some FieldType.int), 8, [], 3, 8, 1211, 1210, 42, 76),
  (yX9_goesOn, cX9_goesOn, 9, none, 8, [], 3, 8, 1203, 1202, 40, 76),
  (yX9_works, cX9_works, 3, none, 8, [], 2, 8, 1199, 1198, 39, 76)]
def mt5_ : List MD_ := [(yX9_isGood, cX9_isGood, 5, (some FieldType.boolean), 8, [], 3, 8, 1223, 1222, 43, 76),
  (yX9_hands, cX9_hands, 5, (some FieldType.int), 8, [], 3, 8, 1227, 1226, 44, 76),
  (yX9_finds, cX9_finds, 6, (some FieldType.boolean), 8, [], 2, 8, 1195, 1194, 38, 76),
  (yX9_isAsGood, cX9_isAsGood, 3, (some FieldType.boolean), 8, [], 2, 8, 1232, 1231, 45, 76),
  (yX9_casts, cX9_casts, 4, (some FieldType.boolean), 8, [], 2, 8, 1191, 1190, 37, 76),
  (yX9_forgetsOld, cX9_forgetsOld, 2, none, 8, [], 1, 8, 1187, 1186, 36, 76),
  (yX9_takes, cX9_takes, 3, none, 8, [], 2, 8, 1236, 1235, 46, 76),
  (yX9_fit, cX9_fit, 2, (some FieldType.int), 8, [], 2, 8, 1183, 1181, 1182, 76),
  (yX9_anew, cX9_anew, 2, (some FieldType.int), 8, [], 1, 8, 1240, 1238, 1239, 76),
  (yX9_hand, cX9_hand, 2, (some FieldType.int), 8, [], 2, 8, 1244, 1242, 1243, 76),
  (yX9_isPlayable, cX9_isPlayable, 2, (some FieldType.boolean), 8, [], 2, 8, 1252, 1251, 47, 76),
  (yX9_playable, cX9_playable, 3, (some FieldType.int), 8, [], 1, 8, 1248, 1246, 1247, 76),
  (yX9_work, cX9_work, 4, (some FieldType.int), 8, [], 3, 8, 1265, 1264, 49, 76),
  (yX9_tries, cX9_tries, 7, none, 8, [], 5, 8, 1261, 1260, 48, 76),
  (yX9_week, cX9_week, 2, (some FieldType.int), 8, [], 2, 8, 1256, 1254, 1255, 76),
  (yX9_order, cX9_order, 2, (some FieldType.int), 8, [], 2, 8, 1270, 1268, 1269, 76),
  (yX9_fills, cX9_fills, 7, none, 8, [], 6, 8, 1278, 1277, 50, 76),
  (yX9_fill, cX9_fill, 4, (some FieldType.int), 8, [], 2, 8, 1274, 1272, 1273, 76),
  (yX9_fact, cX9_fact, 4, (some FieldType.int), 8, [], 4, 8, 1282, 1280, 1281, 76),
  (yX9_holder, cX9_holder, 6, (some FieldType.int), 8, [], 4, 8, 1290, 1289, 51, 76),
  (yX9_where, cX9_where, 4, (some FieldType.int), 8, [], 4, 8, 1286, 1284, 1285, 76),
  (yX9_held, cX9_held, 5, (some FieldType.int), 8, [], 3, 8, 1294, 1292, 1293, 76),
  (yX9_feed, cX9_feed, 8, (some FieldType.int), 8, [], 6, 8, 1298, 1296, 1297, 76),
  (yX9_end, cX9_end, 2, (some FieldType.int), 8, [], 2, 8, 1302, 1300, 1301, 76),
  (yX9_see, cX9_see, 2, (some FieldType.int), 8, [], 2, 8, 1321, 1320, 54, 76)]
def mt6_ : List MD_ := [(yX9_isSmall, cX9_isSmall, 1, (some FieldType.boolean), 8, [], 1, 99, 1317, 1316, 10068, 76),
  (yX9_isDigit, cX9_isDigit, 1, (some FieldType.boolean), 8, [], 1, 99, 1348, 1347, 10068, 76),
  (yX9_isLike, cX9_isLike, 5, (some FieldType.boolean), 8, [], 4, 8, 1330, 1329, 56, 76),
  (yX9_word, cX9_word, 3, (some FieldType.int), 8, [], 3, 8, 1325, 1324, 55, 76),
  (yX9_next, cX9_next, 2, none, 8, [], 1, 8, 1314, 1313, 53, 76),
  (yX9_starts, cX9_starts, 4, none, 8, [], 4, 8, 1310, 1309, 52, 76),
  (yX9_fails, cX9_fails, 2, none, 8, [], 2, 8, 1356, 1355, 58, 76),
  (yX9_wants, cX9_wants, 2, none, 8, [], 2, 8, 1360, 1359, 59, 76),
  (yX9_either, cX9_either, 4, (some FieldType.boolean), 8, [], 2, 8, 1364, 1363, 60, 76),
  (yX9_all, cX9_all, 4, (some FieldType.boolean), 8, [], 2, 8, 1368, 1367, 61, 76),
  (yX9_one, cX9_one, 5, (some FieldType.boolean), 8, [], 2, 8, 1372, 1371, 62, 76),
  (yX9_downwards, cX9_downwards, 2, (some FieldType.long), 8, [0], 1, 99, 1379, 1378, 10068, 76),
  (yX9_worth, cX9_worth, 2, (some FieldType.long), 8, [], 2, 8, 1376, 1375, 63, 76),
  (yX9_greatest, cX9_greatest, 4, (some FieldType.int), 8, [], 2, 8, 1385, 1384, 64, 76),
  (yX9_had, cX9_had, 4, (some FieldType.int), 8, [], 2, 8, 1390, 1389, 65, 76),
  (yX9_term, cX9_term, 2, none, 8, [], 1, 8, 1352, 1351, 57, 76),
  (yX9_terms, cX9_terms, 3, (some FieldType.int), 8, [], 1, 8, 1306, 1304, 1305, 76),
  (yX9_holds, cX9_holds, 4, (some FieldType.boolean), 8, [], 4, 8, 1398, 1397, 66, 76),
  (yX9_may, cX9_may, 4, (some FieldType.int), 8, [], 3, 8, 1394, 1392, 1393, 76),
  (yX9_isKept, cX9_isKept, 6, (some FieldType.boolean), 8, [], 3, 8, 1406, 1405, 67, 76),
  (yX9_broken, cX9_broken, 3, (some FieldType.int), 8, [], 2, 8, 1402, 1400, 1401, 76),
  (yX9_paid, cX9_paid, 5, (some FieldType.int), 8, [], 3, 8, 1414, 1413, 68, 76),
  (yX9_about, cX9_about, 4, (some FieldType.int), 8, [], 4, 8, 1410, 1408, 1409, 76),
  (yX9_count, cX9_count, 4, (some FieldType.int), 8, [], 2, 8, 1418, 1416, 1417, 76),
  (yX6_opensTerm, cX6_opensTerm, 1, (some FieldType.boolean), 9, [], 1, 32, 719, 717, 718, 87)]
def mt7_ : List MD_ := [(yX6_isSpelled, cX6_isSpelled, 5, (some FieldType.boolean), 9, [], 4, 32, 657, 655, 656, 87),
  (yL_where, cL_where, 6, (some FieldType.int), 10, [], 5, 99, 849, 848, 10068, 69),
  (yL_about, cL_about, 6, (some FieldType.int), 10, [], 5, 99, 923, 922, 10068, 69),
  (yL_law, cL_law, 7, (some FieldType.boolean), 10, [], 1, 99, 10068, 10068, 10068, 69),
  (yJ6_numberOfLeadingZeros_0f7a4, cJ6_numberOfLeadingZeros_0f7a4, 2, (some FieldType.int), 11, [], 1, 99, 1219, 1218, 10068, 81),
  (yJ6_numberOfTrailingZeros_0f7a4, cJ6_numberOfTrailingZeros_0f7a4, 2, (some FieldType.int), 11, [], 1, 99, 1215, 1214, 10068, 81),
  (yJ6_bitCount_0f7a4, cJ6_bitCount_0f7a4, 1, (some FieldType.int), 11, [], 1, 99, 507, 506, 10068, 81),
  (yJ9_floorDiv_f86c9, cJ9_floorDiv_f86c9, 6, (some FieldType.long), 12, [0, 2, 4], 2, 99, 814, 813, 10068, 80),
  (yJ9_abs_0f7a4, cJ9_abs_0f7a4, 1, (some FieldType.int), 12, [], 1, 99, 528, 527, 10068, 80),
  (yJ9_max_7cf53, cJ9_max_7cf53, 2, (some FieldType.int), 12, [], 2, 99, 821, 820, 10068, 80),
  (yJ9_max_f86c9, cJ9_max_f86c9, 4, (some FieldType.long), 12, [0, 2], 2, 99, 474, 473, 10068, 80),
  (yJ9_min_7cf53, cJ9_min_7cf53, 2, (some FieldType.int), 12, [], 2, 99, 531, 530, 10068, 80),
  (yJ0_length_8abf5, cJ0_length_8abf5, 1, (some FieldType.int), 13, [], 1, 33, 661, 659, 660, 88),
  (yJ0_charAt_5068e, cJ0_charAt_5068e, 2, (some FieldType.char), 13, [], 2, 33, 671, 669, 670, 88),
  (yJ0_coder_7d493, cJ0_coder_7d493, 1, (some FieldType.byte), 13, [], 1, 33, 665, 663, 664, 88),
  (yJ0_isLatin1_aae02, cJ0_isLatin1_aae02, 1, (some FieldType.boolean), 13, [], 1, 33, 675, 673, 674, 88),
  (yJ0_checkIndex_df160, cJ0_checkIndex_df160, 2, none, 13, [], 2, 99, 681, 680, 10068, 88),
  (yJ1_charAt_3b067, cJ1_charAt_3b067, 2, (some FieldType.char), 14, [], 2, 99, 678, 677, 10068, 89),
  (yJ2_getChar_3b067, cJ2_getChar_3b067, 2, (some FieldType.char), 15, [], 2, 99, 699, 698, 10068, 91),
  (yJ2_length_9d52b, cJ2_length_9d52b, 1, (some FieldType.int), 15, [], 1, 99, 695, 694, 10068, 91),
  (yJ2_charAt_3b067, cJ2_charAt_3b067, 2, (some FieldType.char), 15, [], 2, 99, 689, 688, 10068, 91),
  (yJ2_checkIndex_2214a, cJ2_checkIndex_2214a, 2, none, 15, [], 2, 99, 692, 691, 10068, 91),
  (yJ7_fill_d0a16, cJ7_fill_d0a16, 5, none, 16, [1], 2, 99, 449, 448, 10068, 79),
  (yJ7_fill_53178, cJ7_fill_53178, 4, none, 16, [], 2, 99, 600, 599, 10068, 79),
  (yJ3_checkIndex_8e157, cJ3_checkIndex_8e157, 3, (some FieldType.int), 17, [], 3, 99, 686, 685, 10068, 90)]
def mt_ (i : Nat) : MD_ := ((match i / 25 with | 0 => mt0_ | 1 => mt1_ | 2 => mt2_ | 3 => mt3_ | 4 => mt4_ | 5 => mt5_ | 6 => mt6_ | _ => mt7_).getD (i % 25) (yX0_init, cX0_init, 0, none, 0, [], 0, 0, 0, 0, 0, 0))
def nam_ (i : Nat) : MethodName := (mt_ i).1
def cod_ (i : Nat) : ByteArray := (mt_ i).2.1
def mxl_ (i : Nat) : Nat := (mt_ i).2.2.1
def rty_ (i : Nat) : Option FieldType := (mt_ i).2.2.2.1
def kap_ (i : Nat) : Nat := (mt_ i).2.2.2.2.1
def lgs_ (i : Nat) : List Nat := (mt_ i).2.2.2.2.2.1
def nar_ (i : Nat) : Nat := (mt_ i).2.2.2.2.2.2.1
def rcv_ (i : Nat) : Nat := (mt_ i).2.2.2.2.2.2.2.1
def fpl_ : List (List (Nat × (Nat × Nat × Nat × Nat))) := [[(9, (0, 0, 0, 295)), (15, (0, 1, 0, 297)), (18, (0, 2, 0, 299)), (21, (0, 3, 3, 301)), (25, (0, 4, 3, 303)), (28, (0, 5, 2, 306))],
  [(11, (1, 1, 2, 213)), (17, (1, 2, 2, 215)), (21, (1, 3, 2, 217)), (24, (1, 4, 2, 219)), (27, (1, 0, 0, 210)), (31, (1, 5, 0, 221))],
  [(9, (2, 0, 2, 110)), (15, (2, 1, 2, 111)), (19, (2, 2, 2, 112)), (41, (4, 5, 0, 356)), (69, (2, 3, 0, 113)), (72, (4, 4, 0, 354)), (75, (4, 8, 0, 360)), (78, (4, 9, 2, 362))],
  [(11, (3, 1, 2, 157)), (15, (3, 2, 2, 158)), (18, (3, 3, 2, 159)), (21, (3, 4, 2, 160)), (28, (3, 0, 0, 155))],
  [(9, (4, 0, 0, 345)), (15, (4, 1, 0, 347)), (18, (4, 2, 0, 349)), (21, (4, 3, 0, 351)), (24, (4, 6, 2, 357)), (28, (4, 7, 2, 358)), (31, (4, 9, 2, 361)), (34, (4, 4, 0, 353)), (41, (4, 5, 0, 355)), (48, (4, 8, 0, 359)), (51, (0, 4, 3, 305))],
  [(11, (5, 0, 2, 180)), (17, (5, 1, 2, 181)), (21, (5, 2, 2, 182)), (28, (5, 6, 2, 186)), (37, (5, 4, 0, 184)), (41, (5, 5, 0, 185)), (52, (5, 3, 0, 183)), (100, (1, 0, 0, 211)), (158, (32, 0, 0, 1436))],
  [(9, (6, 0, 2, 131)), (15, (6, 1, 2, 132)), (18, (6, 2, 2, 133)), (21, (6, 3, 2, 134)), (32, (6, 4, 0, 136)), (48, (4, 2, 0, 350)), (62, (4, 3, 0, 352))],
  [(11, (7, 0, 2, 235)), (17, (7, 2, 2, 237)), (24, (7, 4, 2, 239)), (28, (7, 5, 0, 240)), (35, (7, 7, 2, 242)), (42, (7, 8, 2, 243)), (46, (7, 9, 2, 244)), (53, (7, 11, 2, 246)), (60, (7, 12, 2, 247)), (64, (7, 13, 2, 248)), (67, (7, 1, 0, 236)), (88, (0, 5, 2, 307)), (92, (0, 4, 3, 304)), (96, (7, 3, 0, 238)), (130, (7, 6, 1, 241)), (159, (6, 4, 0, 137)), (162, (6, 3, 2, 135)), (188, (3, 0, 0, 156)), (199, (7, 10, 0, 245)), (210, (1, 0, 0, 212)), (211, (1, 1, 2, 214)), (238, (4, 0, 0, 346)), (241, (4, 1, 0, 348)), (247, (1, 2, 2, 216)), (259, (1, 3, 2, 218)), (262, (1, 4, 2, 220)), (279, (0, 1, 0, 298)), (285, (0, 2, 0, 300)), (288, (0, 0, 0, 296)), (294, (0, 3, 3, 302))],
  [(1, (8, 0, 0, 942)), (13, (8, 2, 2, 944)), (17, (8, 3, 2, 945)), (20, (8, 4, 2, 946)), (23, (8, 5, 2, 947)), (27, (8, 6, 2, 948)), (30, (8, 7, 2, 949)), (33, (8, 9, 2, 951)), (36, (8, 10, 2, 952)), (39, (8, 11, 2, 953)), (42, (8, 12, 2, 954)), (45, (8, 13, 2, 955)), (48, (8, 14, 2, 956)), (51, (8, 15, 2, 957)), (54, (8, 16, 2, 958)), (57, (8, 17, 2, 959)), (60, (8, 18, 2, 960)), (63, (8, 19, 0, 961)), (66, (8, 20, 2, 962)), (69, (8, 21, 2, 963)), (72, (8, 23, 2, 965)), (75, (8, 24, 2, 966)), (78, (8, 25, 2, 967)), (81, (8, 29, 2, 971)), (84, (8, 30, 2, 972)), (87, (8, 35, 2, 977)), (90, (8, 36, 2, 978)), (93, (8, 37, 2, 979)), (96, (8, 38, 2, 980)), (100, (8, 40, 2, 982)), (103, (8, 42, 2, 984)), (106, (8, 43, 2, 985)), (109, (8, 44, 2, 986)), (112, (8, 45, 2, 987)), (115, (8, 46, 2, 988)), (118, (8, 47, 2, 989)), (121, (8, 1, 0, 943)), (130, (8, 8, 0, 950)), (147, (8, 22, 0, 964)), (188, (8, 26, 0, 968)), (191, (8, 27, 0, 969)), (215, (8, 31, 0, 973)), (218, (8, 28, 0, 970)), (229, (8, 32, 0, 974)), (232, (8, 33, 0, 975)), (239, (8, 34, 0, 976)), (246, (8, 39, 0, 981)), (249, (8, 49, 0, 991)), (252, (8, 48, 2, 990)), (292, (8, 50, 0, 992)), (295, (8, 51, 0, 993)), (298, (8, 52, 0, 994)), (313, (8, 53, 0, 995)), (319, (8, 54, 0, 996)), (322, (8, 55, 0, 997)), (340, (8, 56, 3, 998)), (344, (8, 57, 0, 999)), (355, (8, 58, 1, 1000)), (372, (8, 59, 0, 1001)), (382, (8, 60, 0, 1002)), (385, (8, 41, 0, 983))],
  [(91, (32, 1, 2, 1433))],
  [],
  [],
  [],
  [(9, (33, 0, 2, 1434)), (15, (33, 1, 4, 1435))],
  [],
  [],
  [],
  []]
def mpl_ : List (List (Nat × (Nat × Nat × Nat))) := [[(3, (1000, 294, 0)), (32, (184, 819, 0))],
  [(3, (1000, 208, 0))],
  [(3, (1000, 109, 0)), (22, (16, 462, 0)), (26, (32, 438, 0)), (32, (19, 442, 0)), (35, (20, 450, 0)), (45, (185, 472, 0)), (51, (197, 447, 0)), (57, (36, 454, 0)), (61, (21, 455, 0)), (65, (23, 468, 0)), (81, (22, 459, 0))],
  [(3, (1000, 154, 0)), (24, (88, 585, 1)), (32, (25, 581, 0)), (36, (26, 586, 0)), (39, (198, 598, 0))],
  [(3, (1000, 344, 0)), (37, (88, 408, 1)), (44, (31, 404, 0)), (57, (1, 426, 0))],
  [(3, (1000, 177, 0)), (24, (39, 621, 0)), (32, (9, 708, 0)), (48, (48, 712, 0)), (55, (40, 625, 0)), (59, (43, 628, 0)), (63, (44, 638, 0)), (67, (88, 634, 1)), (71, (41, 631, 0)), (74, (42, 635, 0)), (83, (45, 646, 0)), (86, (46, 649, 0)), (93, (175, 654, 0)), (97, (174, 716, 0)), (106, (47, 729, 0)), (110, (10, 733, 0)), (117, (49, 739, 0)), (123, (50, 743, 0)), (129, (11, 764, 0)), (133, (51, 747, 0)), (145, (52, 755, 0)), (154, (4, 761, 0))],
  [(3, (1000, 130, 0)), (24, (55, 515, 0)), (28, (56, 519, 0)), (36, (58, 532, 0)), (40, (60, 541, 0)), (44, (57, 523, 0)), (53, (183, 526, 0)), (59, (186, 529, 0)), (66, (59, 537, 0)), (70, (61, 545, 0))],
  [(1, (1000, 97, 0)), (23, (12, 106, 0)), (34, (53, 127, 0)), (41, (24, 151, 0)), (52, (37, 174, 0)), (59, (3, 205, 0)), (70, (88, 282, 0)), (74, (89, 285, 0)), (78, (0, 291, 0)), (81, (91, 325, 0)), (85, (90, 329, 0)), (99, (30, 341, 0)), (102, (92, 388, 0)), (106, (33, 392, 0)), (110, (34, 400, 0)), (114, (35, 413, 0)), (117, (31, 421, 0)), (120, (36, 422, 0)), (124, (17, 434, 0)), (134, (13, 476, 0)), (138, (14, 483, 0)), (141, (15, 490, 0)), (145, (18, 497, 0)), (149, (181, 505, 0)), (155, (54, 511, 0)), (165, (74, 557, 0)), (169, (94, 558, 0)), (172, (95, 562, 0)), (175, (96, 566, 0)), (178, (97, 570, 0)), (181, (27, 577, 0)), (185, (25, 855, 0)), (192, (28, 917, 0)), (195, (29, 594, 0)), (202, (98, 605, 0)), (206, (38, 617, 0)), (221, (102, 785, 0)), (224, (101, 833, 0)), (227, (100, 928, 0)), (230, (104, 804, 0)), (233, (93, 843, 0)), (250, (99, 822, 0)), (256, (8, 789, 0)), (265, (5, 793, 0)), (270, (103, 797, 0)), (273, (6, 801, 0)), (276, (7, 826, 0)), (282, (105, 808, 0)), (291, (2, 815, 0)), (299, (182, 812, 0))],
  [(7, (1000, 941, 0)), (124, (107, 1131, 0)), (133, (111, 1156, 0)), (137, (110, 1140, 0)), (140, (112, 1164, 0)), (144, (119, 1176, 0)), (150, (121, 1204, 0)), (153, (122, 1208, 0)), (157, (186, 1212, 0)), (162, (180, 1213, 0)), (168, (179, 1217, 0)), (171, (123, 1200, 0)), (175, (124, 1196, 0)), (179, (125, 1220, 0)), (182, (126, 1224, 0)), (185, (181, 1228, 0)), (194, (127, 1192, 0)), (197, (128, 1229, 0)), (200, (130, 1184, 0)), (203, (129, 1188, 0)), (206, (131, 1233, 0)), (209, (135, 1249, 0)), (212, (183, 1266, 0)), (221, (137, 1262, 0)), (224, (138, 1258, 0)), (235, (141, 1275, 0)), (242, (144, 1287, 0)), (255, (187, 1331, 0)), (261, (188, 1332, 0)), (267, (152, 1327, 0)), (301, (150, 1315, 0)), (304, (149, 1318, 0)), (307, (153, 1322, 0)), (310, (151, 1346, 0)), (316, (154, 1311, 0)), (325, (156, 1353, 0)), (328, (159, 1365, 0)), (331, (160, 1369, 0)), (334, (158, 1361, 0)), (337, (157, 1357, 0)), (347, (162, 1373, 0)), (359, (161, 1377, 0)), (363, (163, 1382, 0)), (366, (164, 1387, 0)), (369, (184, 1386, 0)), (375, (155, 1307, 0)), (379, (165, 1349, 0)), (388, (167, 1395, 0)), (391, (169, 1403, 0)), (394, (171, 1411, 0))],
  [(99, (187, 658, 0)), (105, (188, 668, 0))],
  [(7, (79, 851, 0)), (15, (86, 924, 0)), (18, (62, 94, 0)), (21, (108, 938, 0)), (22, (63, 278, 0)), (26, (109, 1127, 0)), (27, (64, 321, 0)), (31, (113, 1136, 0)), (32, (65, 332, 0)), (36, (114, 1144, 0)), (37, (66, 336, 0)), (41, (115, 1148, 0)), (42, (67, 384, 0)), (45, (116, 1152, 0)), (46, (68, 396, 0)), (49, (117, 1160, 0)), (50, (69, 409, 0)), (53, (118, 1168, 0)), (54, (70, 417, 0)), (57, (120, 1172, 0)), (58, (71, 430, 0)), (62, (132, 1180, 0)), (63, (72, 479, 0)), (67, (133, 1237, 0)), (68, (73, 486, 0)), (71, (134, 1241, 0)), (72, (74, 493, 0)), (75, (136, 1245, 0)), (76, (75, 501, 0)), (79, (139, 1253, 0)), (80, (76, 549, 0)), (83, (140, 1267, 0)), (84, (77, 553, 0)), (87, (142, 1271, 0)), (88, (78, 573, 0)), (91, (143, 1279, 0)), (92, (176, 847, 0)), (97, (145, 1283, 0)), (98, (106, 932, 0)), (101, (80, 590, 0)), (105, (146, 1291, 0)), (106, (81, 601, 0)), (110, (147, 1295, 0)), (111, (82, 609, 0)), (114, (148, 1299, 0)), (115, (83, 613, 0)), (118, (166, 1303, 0)), (119, (84, 780, 0)), (122, (168, 1391, 0)), (123, (85, 829, 0)), (126, (170, 1399, 0)), (127, (177, 921, 0)), (129, (172, 1407, 0)), (130, (87, 839, 0)), (133, (173, 1415, 0))],
  [],
  [],
  [(335, (189, 662, 0)), (492, (190, 672, 0)), (495, (192, 676, 0)), (498, (195, 687, 0)), (1059, (199, 684, 0))],
  [(9, (191, 679, 0))],
  [(48, (194, 693, 0)), (67, (196, 690, 0)), (71, (193, 697, 0)), (414, (191, 696, 0))],
  [],
  []]
def cpl_ : List (List (Nat × (Nat × Nat))) := [[],
  [(9, (32, 209))],
  [],
  [],
  [],
  [(9, (32, 178))],
  [],
  [(9, (0, 100)), (15, (4, 102)), (21, (2, 104)), (32, (6, 125)), (39, (3, 149)), (50, (5, 172)), (57, (1, 203)), (189, (40, 856))],
  [],
  [],
  [(8, (7, 92)), (13, (40, 850)), (19, (8, 936))],
  [],
  [],
  [],
  [],
  [],
  [],
  []]
def kpl_ : List (List (Nat × (AV × Nat × Nat))) := [[],
  [],
  [(39, (vJ (-1), 446, 0)), (85, (vJ (15), 465, 0)), (87, (vJ (4294967296), 466, 0)), (89, (vJ (68719476736), 467, 0))],
  [],
  [],
  [(44, (vA (some 5505056), 706, 1)), (77, (vA (some 5242912), 642, 1)), (80, (vA (some 5767200), 644, 1)), (90, (vA (some 6030755), 652, 1)), (103, (vA (some 262176), 728, 1)), (114, (vA (some 1310752), 737, 1)), (120, (vA (some 4456480), 778, 1)), (126, (vA (some 1572896), 776, 1)), (136, (vA (some 1835040), 774, 1)), (139, (vA (some 2097184), 751, 1)), (142, (vA (some 3932192), 753, 1)), (148, (vA (some 4194336), 772, 1)), (151, (vA (some 2359328), 759, 1)), (161, (vA (some 4718624), 768, 1)), (164, (vA (some 4980768), 770, 1))],
  [(65, (vI (1000000), 536, 0))],
  [(128, (vJ (-1), 475, 0)), (215, (vA (some 262176), 784, 1)), (236, (vI (-100000), 288, 0)), (237, (vI (100000), 289, 0)), (244, (vA (some 1048608), 837, 1)), (253, (vA (some 524320), 838, 1)), (268, (vJ (-2), 796, 0)), (297, (vJ (365), 811, 0))],
  [(128, (vI (-100000), 1134, 0)), (129, (vI (100000), 1135, 0)), (228, (vI (1000000), 1257, 0)), (265, (vA (some 12058849), 1326, 2)), (271, (vA (some 12321057), 1333, 2)), (273, (vA (some 12583265), 1334, 2)), (274, (vA (some 12845281), 1335, 2)), (276, (vA (some 13107361), 1336, 2)), (278, (vA (some 13369505), 1337, 2)), (280, (vA (some 13631713), 1338, 2)), (282, (vA (some 13893857), 1339, 2)), (284, (vA (some 14156129), 1340, 2)), (285, (vA (some 14418145), 1341, 2)), (287, (vA (some 14680417), 1342, 2)), (289, (vA (some 14942433), 1343, 2)), (290, (vA (some 15204705), 1344, 2)), (291, (vA (some 15466849), 1345, 2)), (351, (vJ (365), 1380, 0)), (353, (vJ (364), 1381, 0))],
  [(5, (vA (some 262176), 720, 1)), (9, (vA (some 524320), 722, 1)), (12, (vA (some 786464), 724, 1)), (15, (vA (some 1048608), 726, 1))],
  [],
  [(264, (vI (65536), 1216, 0)), (265, (vI (1431655765), 508, 0)), (266, (vI (858993459), 509, 0)), (267, (vI (252645135), 510, 0))],
  [],
  [(38, (vI 1, 666, 1)), (1053, (vX 1, 682, 1))],
  [],
  [],
  [],
  []]
def fld_ (k i : Nat) : Option (Nat × Nat × Nat × Nat) := (fpl_.getD k []).lookup i
def mth_ (k i : Nat) : Option (Nat × Nat × Nat) := (mpl_.getD k []).lookup i
def cls_ (k i : Nat) : Option (Nat × Nat) := (cpl_.getD k []).lookup i
def kst_ (k i : Nat) : Option (AV × Nat × Nat) := (kpl_.getD k []).lookup i
/-- how many fields an object of a kind has -/
def nfl_ (k : Nat) : Nat := (vwCl.map (fun q => q.2.2)).getD k 0
/-- what the constants hold: the words that measure, the bytes of the texts -/
def wht_ : List Int32 := [-1, -1, -1, -1, -1, -1, -1, -1, -1, 0, 1, 2, 3, 6, -1, -1, -1, -1, -1, -1, -1, -1]
def txt_ : List (List Int32) := [[109, 97, 121], [109, 111, 115, 116], [108, 101, 97, 115, 116], [112, 97, 121], [105, 102], [111, 114], [97, 110, 100], [110, 111, 116], [103, 117, 101, 115, 116], [97, 103, 101], [121, 101, 97, 114, 115], [102, 101, 101], [103, 114, 97, 100, 101], [114, 111, 108, 101, 115], [40], [41], [59], [60], [62, 61], [], [], [], [109, 97, 121], [109, 111, 115, 116], [108, 101, 97, 115, 116], [112, 97, 121], [105, 102], [111, 114], [97, 110, 100], [110, 111, 116], [103, 117, 101, 115, 116], [97, 103, 101], [121, 101, 97, 114, 115], [102, 101, 101], [103, 114, 97, 100, 101], [114, 111, 108, 101, 115]]
def cI_ (a k : Nat) : Int32 := if a % 64 = 32 then wht_.getD (a / 262144 - 1) 0 else if a % 64 = 34 then (txt_.getD (a / 262144 - 60) []).getD k 0 else 0
def cR_ (a k : Nat) : Option Nat := if a % 64 = 32 then some (((a / 262144 + 23) * 4096 + (txt_.getD (a / 262144 - 1) []).length) * 64 + 33) else if a % 64 = 33 then some (((a / 262144 + 36) * 4096 + a / 64 % 4096) * 64 + 34) else if a % 64 = 35 then some ((k + 1) * 262144 + 32) else none
end
section
/-! THE SMALL MACHINE: what the bytecode does, over a heap of rows. A reference is a number: (place in the order of making * 4096 + length) * 64 + kind. -/
abbrev AH : Type := (Nat → Nat → Int32) × (Nat → Nat → Int64) × (Nat → Nat → Option Nat) × List Nat × Nat × Nat
def kd_ (a : Nat) : Nat := a % 64
def ln_ (a : Nat) : Nat := a / 64 % 4096
def sr_ (a : Nat) : Nat := a / 262144
def mk_ (s k n : Nat) : Nat := (s * 4096 + n) * 64 + k
def hI_ (h : AH) : Nat → Nat → Int32 := h.1
def hL_ (h : AH) : Nat → Nat → Int64 := h.2.1
def hR_ (h : AH) : Nat → Nat → Option Nat := h.2.2.1
def ids_ (h : AH) : List Nat := h.2.2.2.1
def nx_ (h : AH) : Nat := h.2.2.2.2.1
def sl_ (h : AH) : Nat := h.2.2.2.2.2
def uI_ (h : AH) (a : Nat) (f : Nat → Int32) : AH := (fun b => if b = a then f else h.1 b, h.2)
def uL_ (h : AH) (a : Nat) (f : Nat → Int64) : AH := (h.1, fun b => if b = a then f else h.2.1 b, h.2.2)
def uR_ (h : AH) (a : Nat) (f : Nat → Option Nat) : AH := (h.1, h.2.1, fun b => if b = a then f else h.2.2.1 b, h.2.2.2)
def st_ {α : Type} (f : Nat → α) (k : Nat) (v : α) : Nat → α := fun j => if j = k then v else f j
/-- a new cell: its rows are 0 -/
def nw_ (h : AH) (k n s : Nat) : AH := (fun b => if b = mk_ (nx_ h) k n then fun _ => 0 else h.1 b, fun b => if b = mk_ (nx_ h) k n then fun _ => 0 else h.2.1 b, fun b => if b = mk_ (nx_ h) k n then fun _ => none else h.2.2.1 b, ids_ h ++ [mk_ (nx_ h) k n], nx_ h + 1, sl_ h + s)
/-- an exception is made: nothing is known of its cell -/
def xh_ (h : AH) : AH := (h.1, h.2.1, h.2.2.1, h.2.2.2.1, nx_ h + 1, sl_ h + 6)
def acat_ (v : AV) : Nat := match v with
  | .inr (.inl _) => 2
  | _ => 1
/-- the arguments in their places -/
def plc_ : List AV → List AV
  | [] => []
  | .inr (.inl x) :: r => .inr (.inl x) :: vX 0 :: plc_ r
  | v :: r => v :: plc_ r
def ent_ (as : List AV) (n : Nat) : List AV := plc_ as ++ List.replicate (n - (plc_ as).length) (vX 0)
/-- a number as a type has it -/
def nb_ (t : Nat) (x : Int32) : Bool := if t = 3 then (x == 0 || x == 1) else if t = 4 then x.toInt8.toInt32 == x else true
def rb_ (t : Option FieldType) (x : Int32) : Bool := match t with
  | some .boolean => (x == 0 || x == 1)
  | some .byte => x.toInt8.toInt32 == x
  | some .char => (x.toUInt32 % 65536).toInt32 == x
  | some .int => true
  | _ => false
/-- null or of a kind -/
def ok1_ (k : Nat) (o : Option Nat) : Bool := match o with
  | none => true
  | some a => kd_ a == k
/-- null or one of the 22 constants -/
def tkb_ (o : Option Nat) : Bool := match o with
  | none => true
  | some a => decide (kd_ a = 32) && (decide (1 ≤ sr_ a) && (decide (sr_ a ≤ 22) && decide (ln_ a = 0)))
/-- a final field -/
def fnl_ (k p : Nat) : Bool := ((vwCl.getD k (RX0, TX0, 6)).2.1 p).2.2.2
def inb_ (i : Int32) (n : Nat) : Bool := decide (0 ≤ i.toInt) && decide (i.toInt < n)
def bI_ (f : Int32 → Int32 → Int32) (st : List AV) : Option (List AV) := match st with
  | .inl y :: .inl x :: r => some (.inl (f x y) :: r)
  | _ => none
def bL_ (f : Int64 → Int64 → Int64) (st : List AV) : Option (List AV) := match st with
  | .inr (.inl y) :: .inr (.inl x) :: r => some (.inr (.inl (f x y)) :: r)
  | _ => none
def cb_ (c : ClassFile.Cond) (x y : Int32) : Bool := match c with
  | .eq => decide (x = y)
  | .ne => decide (¬ x = y)
  | .lt => decide (x < y)
  | .ge => decide (y ≤ x)
  | .gt => decide (y < x)
  | .le => decide (x ≤ y)
def ca_ (c : ACond) (x y : Option Nat) : Bool := match c with
  | .eq => decide (x = y)
  | .ne => decide (¬ x = y)
def tg_ (pc : Nat) (off : Int) : Nat := ((pc : Int) + off).toNat
def tk_ (pc : Nat) (off : Int) : Bool := decide (0 ≤ (pc : Int) + off)
def arr_ (t : ArrayType) : Nat := match t with
  | .int => 16
  | .byte => 17
  | .boolean => 18
  | .long => 19
  | _ => 63
def ldI_ (ls : List AV) (k : Nat) : Option AV := match ls[k]? with
  | some (.inl x) => some (.inl x)
  | _ => none
def ldL_ (ls : List AV) (k : Nat) : Option AV := match ls[k]? with
  | some (.inr (.inl x)) => some (.inr (.inl x))
  | _ => none
def ldA_ (ls : List AV) (k : Nat) : Option AV := match ls[k]? with
  | some (.inr (.inr (.inl x))) => some (.inr (.inr (.inl x)))
  | _ => none
/-- a store of a word into a local that lies behind no long -/
def sto_ (lg : List Nat) (ls : List AV) (k : Nat) (v : AV) : Option (List AV) := if k < ls.length ∧ (k = 0 ∨ ¬ (k - 1) ∈ lg) then some (ls.set k v) else none
def stl_ (lg : List Nat) (ls : List AV) (k : Nat) (v : AV) : Option (List AV) := if k + 1 < ls.length ∧ k ∈ lg ∧ (k = 0 ∨ ¬ (k - 1) ∈ lg) then some ((ls.set k v).set (k + 1) (vX 0)) else none
abbrev NS_ : Type := Nat × List AV × List AV × AH
def exc_ (i : Instr) : Option AV := match i with
  | .iconst n => some (.inl (Int32.ofInt n))
  | .bipush n => some (.inl (Int8.ofInt n).toInt32)
  | .sipush n => some (.inl (Int16.ofInt n).toInt32)
  | .lconst n => some (.inr (.inl (Int64.ofNat (n : Nat))))
  | .aconst_null => some (.inr (.inr (.inl none)))
  | _ => none
/-- arithmetic: what becomes of the stack -/
def exa_ (i : Instr) (st : List AV) : Option (List AV) := match i with
  | .iadd => bI_ (fun x y => x + y) st
  | .isub => bI_ (fun x y => x - y) st
  | .imul => bI_ (fun x y => x * y) st
  | .iand => bI_ (fun x y => x &&& y) st
  | .ior => bI_ (fun x y => x ||| y) st
  | .ixor => bI_ (fun x y => x ^^^ y) st
  | .ishl => bI_ (fun x y => x <<< (y &&& 31)) st
  | .ishr => bI_ (fun x y => x >>> (y &&& 31)) st
  | .iushr => bI_ (fun x y => (x.toUInt32 >>> (y.toUInt32 &&& Int32.toUInt32 31)).toInt32) st
  | .idiv => (match st with
    | .inl y :: .inl x :: r => if y = 0 then none else some (.inl (x / y) :: r)
    | _ => none)
  | .irem => (match st with
    | .inl y :: .inl x :: r => if y = 0 then none else some (.inl (x - x / y * y) :: r)
    | _ => none)
  | .ineg => (match st with
    | .inl x :: r => some (.inl (-x) :: r)
    | _ => none)
  | .ladd => bL_ (fun x y => x + y) st
  | .lsub => bL_ (fun x y => x - y) st
  | .lmul => bL_ (fun x y => x * y) st
  | .land => bL_ (fun x y => x &&& y) st
  | .lor => bL_ (fun x y => x ||| y) st
  | .lxor => bL_ (fun x y => x ^^^ y) st
  | .ldiv => (match st with
    | .inr (.inl y) :: .inr (.inl x) :: r => if y = 0 then none else some (.inr (.inl (x / y)) :: r)
    | _ => none)
  | .lneg => (match st with
    | .inr (.inl x) :: r => some (.inr (.inl (-x)) :: r)
    | _ => none)
  | .lushr => (match st with
    | .inl y :: .inr (.inl x) :: r => some (.inr (.inl ((x.toUInt64 >>> (y.toInt64.toUInt64 &&& Int64.toUInt64 63)).toInt64)) :: r)
    | _ => none)
  | .lshl => (match st with
    | .inl y :: .inr (.inl x) :: r => some (.inr (.inl (x <<< (y.toInt64 &&& 63))) :: r)
    | _ => none)
  | .lcmp => (match st with
    | .inr (.inl y) :: .inr (.inl x) :: r => some (.inl (lg_cmp x y) :: r)
    | _ => none)
  | .i2l => (match st with
    | .inl x :: r => some (.inr (.inl x.toInt64) :: r)
    | _ => none)
  | .l2i => (match st with
    | .inr (.inl x) :: r => some (.inl x.toInt32 :: r)
    | _ => none)
  | .i2b => (match st with
    | .inl x :: r => some (.inl x.toInt8.toInt32 :: r)
    | _ => none)
  | .i2c => (match st with
    | .inl x :: r => some (.inl (x.toUInt32 % 65536).toInt32 :: r)
    | _ => none)
  | .dup => (match st with
    | v :: r => if acat_ v = 1 then some (v :: v :: r) else none
    | _ => none)
  | .pop => (match st with
    | v :: r => if acat_ v = 1 then some r else none
    | _ => none)
  | .dup_x1 => (match st with
    | v :: w :: r => if acat_ v = 1 ∧ acat_ w = 1 then some (v :: w :: v :: r) else none
    | _ => none)
  | .dup2 => (match st with
    | v :: w :: r => if acat_ v = 1 ∧ acat_ w = 1 then some (v :: w :: v :: w :: r) else none
    | _ => none)
  | _ => none
/-- loads: what is pushed -/
def exl_ (i : Instr) (ls : List AV) : Option AV := match i with
  | .iload k => ldI_ ls k
  | .iload_n k => ldI_ ls k
  | .lload k => ldL_ ls k
  | .lload_n k => ldL_ ls k
  | .aload k => ldA_ ls k
  | .aload_n k => ldA_ ls k
  | _ => none
/-- stores into locals, and iinc -/
def exs_ (lg : List Nat) (i : Instr) (ls st : List AV) : Option (List AV × List AV) := match i with
  | .istore k => (match st with
    | .inl x :: r => (sto_ lg ls k (.inl x)).map (fun l => (l, r))
    | _ => none)
  | .istore_n k => (match st with
    | .inl x :: r => (sto_ lg ls k (.inl x)).map (fun l => (l, r))
    | _ => none)
  | .lstore k => (match st with
    | .inr (.inl x) :: r => (stl_ lg ls k (.inr (.inl x))).map (fun l => (l, r))
    | _ => none)
  | .lstore_n k => (match st with
    | .inr (.inl x) :: r => (stl_ lg ls k (.inr (.inl x))).map (fun l => (l, r))
    | _ => none)
  | .astore k => (match st with
    | .inr (.inr (.inl x)) :: r => (sto_ lg ls k (.inr (.inr (.inl x)))).map (fun l => (l, r))
    | _ => none)
  | .astore_n k => (match st with
    | .inr (.inr (.inl x)) :: r => (sto_ lg ls k (.inr (.inr (.inl x)))).map (fun l => (l, r))
    | _ => none)
  | .iinc k n => (match ls[k]? with
    | some (.inl x) => (sto_ lg ls k (.inl (x + Int32.ofInt n))).map (fun l => (l, st))
    | _ => none)
  | _ => none
/-- jumps: where to, and the stack -/
def exj_ (pc : Nat) (i : Instr) (st : List AV) : Option (Nat × List AV) := match i with
  | .goto o => if tk_ pc o = true then some (tg_ pc o, st) else none
  | .ifCond c o => (match st with
    | .inl x :: r => if tk_ pc o = true then (if cb_ c x 0 = true then some (tg_ pc o, r) else some (pc + 3, r)) else none
    | _ => none)
  | .if_icmp c o => (match st with
    | .inl y :: .inl x :: r => if tk_ pc o = true then (if cb_ c x y = true then some (tg_ pc o, r) else some (pc + 3, r)) else none
    | _ => none)
  | .ifnull o => (match st with
    | .inr (.inr (.inl x)) :: r => if tk_ pc o = true then (if x = none then some (tg_ pc o, r) else some (pc + 3, r)) else none
    | _ => none)
  | .ifnonnull o => (match st with
    | .inr (.inr (.inl x)) :: r => if tk_ pc o = true then (if x = none then some (pc + 3, r) else some (tg_ pc o, r)) else none
    | _ => none)
  | .if_acmp c o => (match st with
    | .inr (.inr (.inl y)) :: .inr (.inr (.inl x)) :: r => if tkb_ x = true ∧ tkb_ y = true ∧ tk_ pc o = true then
        (if ca_ c x y = true then some (tg_ pc o, r) else some (pc + 3, r)) else none
    | _ => none)
  | .tableswitch d lo hi os => (match st with
    | .inl x :: r => if x.toInt < lo ∨ hi < x.toInt then (if tk_ pc d = true then some (tg_ pc d, r) else none) else (match os[(x.toInt - lo).toNat]? with
      | some o => if tk_ pc o = true then some (tg_ pc o, r) else none
      | none => none)
    | _ => none)
  | _ => none
/-- the heap: the stack and the heap behind it -/
def exh_ (xs : Nat → Int32) (k : Nat) (ini : Bool) (i : Instr) (st : List AV) (h : AH) : Option (List AV × AH) := match i with
  | .getfield x => (match fld_ k x, st with
    | some (kk, p, t, _), .inr (.inr (.inl (some a))) :: r => if kd_ a = kk then
        (if kk < 16 then (if t = 1 then some (.inr (.inl (hL_ h a p)) :: r, h) else if t = 2 then some (.inr (.inr (.inl (hR_ h a p))) :: r, h) else some (.inl (hI_ h a p) :: r, h))
         else if t = 2 then some (.inr (.inr (.inl (cR_ a p))) :: r, h) else some (.inl (cI_ a p) :: r, h)) else none
    | _, _ => none)
  | .putfield x => (match fld_ k x, st with
    | some (kk, p, t, _), v :: .inr (.inr (.inl (some a))) :: r => if kd_ a = kk ∧ kk < 16 ∧ (fnl_ kk p = false ∨ ini = true ∧ k = kk) then
        (match v with
          | .inl y => if t ≠ 1 ∧ t ≠ 2 ∧ nb_ t y = true then some (r, uI_ h a (st_ (hI_ h a) p y)) else none
          | .inr (.inl y) => if t = 1 then some (r, uL_ h a (st_ (hL_ h a) p y)) else none
          | .inr (.inr (.inl y)) => if t = 2 then some (r, uR_ h a (st_ (hR_ h a) p y)) else none
          | _ => none) else none
    | _, _ => none)
  | .iaload => (match st with
    | .inl i :: .inr (.inr (.inl (some a))) :: r => if inb_ i (ln_ a) = true then (if kd_ a = 16 then some (.inl (hI_ h a i.toNatClampNeg) :: r, h) else if kd_ a = 36 then some (.inl (xs i.toNatClampNeg) :: r, h) else none) else none
    | _ => none)
  | .baload => (match st with
    | .inl i :: .inr (.inr (.inl (some a))) :: r => if inb_ i (ln_ a) = true then (if kd_ a = 17 ∨ kd_ a = 18 then some (.inl (hI_ h a i.toNatClampNeg) :: r, h) else if kd_ a = 34 then some (.inl (cI_ a i.toNatClampNeg) :: r, h) else none) else none
    | _ => none)
  | .laload => (match st with
    | .inl i :: .inr (.inr (.inl (some a))) :: r => if inb_ i (ln_ a) = true ∧ kd_ a = 19 then some (.inr (.inl (hL_ h a i.toNatClampNeg)) :: r, h) else none
    | _ => none)
  | .aaload => (match st with
    | .inl i :: .inr (.inr (.inl (some a))) :: r => if inb_ i (ln_ a) = true then (if kd_ a = 20 ∨ kd_ a = 21 ∨ kd_ a = 22 then some (.inr (.inr (.inl (hR_ h a i.toNatClampNeg))) :: r, h) else if kd_ a = 35 then some (.inr (.inr (.inl (cR_ a i.toNatClampNeg))) :: r, h) else none) else none
    | _ => none)
  | .iastore => (match st with
    | .inl v :: .inl i :: .inr (.inr (.inl (some a))) :: r => if inb_ i (ln_ a) = true ∧ kd_ a = 16 then some (r, uI_ h a (st_ (hI_ h a) i.toNatClampNeg v)) else none
    | _ => none)
  | .bastore => (match st with
    | .inl v :: .inl i :: .inr (.inr (.inl (some a))) :: r => if inb_ i (ln_ a) = true ∧ (kd_ a = 17 ∧ nb_ 4 v = true ∨ kd_ a = 18 ∧ nb_ 3 v = true) then some (r, uI_ h a (st_ (hI_ h a) i.toNatClampNeg v)) else none
    | _ => none)
  | .lastore => (match st with
    | .inr (.inl v) :: .inl i :: .inr (.inr (.inl (some a))) :: r => if inb_ i (ln_ a) = true ∧ kd_ a = 19 then some (r, uL_ h a (st_ (hL_ h a) i.toNatClampNeg v)) else none
    | _ => none)
  | .aastore => (match st with
    | .inr (.inr (.inl v)) :: .inl i :: .inr (.inr (.inl (some a))) :: r => if inb_ i (ln_ a) = true ∧ (kd_ a = 20 ∧ ok1_ 0 v = true ∨ kd_ a = 21 ∧ ok1_ 4 v = true ∨ kd_ a = 22 ∧ ok1_ 32 v = true) then some (r, uR_ h a (st_ (hR_ h a) i.toNatClampNeg v)) else none
    | _ => none)
  | .arraylength => (match st with
    | .inr (.inr (.inl (some a))) :: r => if 16 ≤ kd_ a ∧ kd_ a ≤ 22 ∨ 34 ≤ kd_ a ∧ kd_ a ≤ 36 then some (.inl (Int32.ofNat (ln_ a)) :: r, h) else none
    | _ => none)
  | .newarray t => (match st with
    | .inl n :: r => if 0 ≤ n.toInt ∧ n.toNatClampNeg < 4096 ∧ arr_ t < 63 then some (.inr (.inr (.inl (some (mk_ (nx_ h) (arr_ t) n.toNatClampNeg)))) :: r, nw_ h (arr_ t) n.toNatClampNeg n.toNatClampNeg) else none
    | _ => none)
  | .anewarray x => (match cls_ k x, st with
    | some (c, _), .inl n :: r => if 0 ≤ n.toInt ∧ n.toNatClampNeg < 4096 ∧ (c = 0 ∨ c = 4 ∨ c = 32) then some (.inr (.inr (.inl (some (mk_ (nx_ h) (if c = 0 then 20 else if c = 4 then 21 else 22) n.toNatClampNeg)))) :: r, nw_ h (if c = 0 then 20 else if c = 4 then 21 else 22) n.toNatClampNeg n.toNatClampNeg) else none
    | _, _ => none)
  | .new x => (match cls_ k x with
    | some (c, _) => if c < 16 then some (.inr (.inr (.inl (some (mk_ (nx_ h) c 0)))) :: st, nw_ h c 0 (nfl_ c)) else none
    | none => none)
  | _ => none
/-- constants of the pool -/
def ki_ (q : AV × Nat × Nat) : Option AV := if q.2.2 = 2 then some q.1 else if q.2.2 = 0 then (match q.1 with
  | .inl y => some (.inl y)
  | _ => none) else none
def kj_ (q : AV × Nat × Nat) : Option AV := if q.2.2 = 0 then (match q.1 with
  | .inr (.inl y) => some (.inr (.inl y))
  | _ => none) else none
def exk_ (k : Nat) (i : Instr) : Option AV := match i with
  | .ldc x => (kst_ k x).bind ki_
  | .ldc_w x => (kst_ k x).bind ki_
  | .ldc2_w x => (kst_ k x).bind kj_
  | .getstatic x => (kst_ k x).bind (fun q => if q.2.2 = 1 then some q.1 else none)
  | _ => none
/-- a plain instruction -/
def ex_ (xs : Nat → Int32) (m pc len : Nat) (i : Instr) (ls st : List AV) (h : AH) : Option NS_ :=
  match exc_ i with
  | some v => some (pc + len, ls, v :: st, h)
  | none => match exl_ i ls with
    | some v => some (pc + len, ls, v :: st, h)
    | none => match exa_ i st with
      | some st' => some (pc + len, ls, st', h)
      | none => match exs_ (lgs_ m) i ls st with
        | some (ls', st') => some (pc + len, ls', st', h)
        | none => match exj_ pc i st with
          | some (pc', st') => some (pc', ls, st', h)
          | none => match exk_ (kap_ m) i with
            | some v => some (pc + len, ls, v :: st, h)
            | none => match exh_ xs (kap_ m) ((nam_ m).name == "<init>") i st h with
              | some (st', h') => some (pc + len, ls, st', h')
              | none => none
/-- where a throw from a place is caught -/
def hnd_ (m pc : Nat) : Option Nat := if ((nam_ m).cls == RL) && ((nam_ m).name != "law") && decide (pc < 12) then some 15 else none
def rok_ (k : Nat) (st : List AV) (n : Nat) : Bool := if k = 99 then true else match (st.take n).getLast? with
  | some (.inr (.inr (.inl (some a)))) => kd_ a == k
  | _ => false
/-- 'throw new E()' stands at pc -/
def thr_ (m pc : Nat) : Bool := match decode (cod_ m) pc, decode (cod_ m) (pc + 3), decode (cod_ m) (pc + 4), decode (cod_ m) (pc + 7) with
  | .ok (.new x, 3), .ok (.dup, 1), .ok (.invokespecial 191, 3), .ok (.athrow, 1) => (match cls_ (kap_ m) x with
    | some (40, _) => kap_ m == 7
    | _ => false)
  | _, _, _, _ => false
abbrev OU_ : Type := Option (Option AV)
/-- is this kind of call (0 static, 1 virtual, 2 special) the callee's -/
def cty_ (c q : Nat) : Bool := if c = 0 then rcv_ q == 99 else if c = 1 then rcv_ q != 99 && (nam_ q).name != "<init>" else rcv_ q != 99 && (nam_ q).name == "<init>"
/-- a call -/
def cal_ (rn : Nat → Nat → Nat → List AV → List AV → AH → Option (OU_ × AH)) (d m pc : Nat) (ls st : List AV) (h : AH) (c : Option (Nat × Nat × Nat)) (ct : Nat) : Option (OU_ × AH) := match c with
  | none => none
  | some (q, _, _) => if q = 1000 then (match st with
      | .inr (.inr (.inl (some a))) :: r => if ct = 2 ∧ kd_ a < 16 ∧ (r.map acat_).sum ≤ 8 ∧ 0 < d then rn d m (pc + 3) ls r h else none
      | _ => none)
    else (match d with
      | 0 => none
      | d' + 1 => if q < 200 ∧ nar_ q ≤ st.length ∧ ((st.drop (nar_ q)).map acat_).sum ≤ 8 ∧ rok_ (rcv_ q) st (nar_ q) = true ∧ cty_ ct q = true then (match rn d' q 0 (ent_ (st.take (nar_ q)).reverse (mxl_ q)) [] h with
        | some (some (some v), h') => rn (d' + 1) m (pc + 3) ls (v :: st.drop (nar_ q)) h'
        | some (some none, h') => rn (d' + 1) m (pc + 3) ls (st.drop (nar_ q)) h'
        | some (none, h') => (match hnd_ m pc with
          | some pc' => rn (d' + 1) m pc' ls [.inr (.inr (.inl (some (mk_ (nx_ h' - 1) 40 0))))] h'
          | none => none)
        | none => none) else none)
/-- how long an instruction is -/
def iln_ (i : Instr) : Nat := match i with
  | .bipush _ => 2
  | .newarray _ => 2
  | .ldc _ => 2
  | .iload _ => 2
  | .lload _ => 2
  | .aload _ => 2
  | .istore _ => 2
  | .lstore _ => 2
  | .astore _ => 2
  | .sipush _ => 3
  | .iinc _ _ => 3
  | .goto _ => 3
  | .ifCond _ _ => 3
  | .if_icmp _ _ => 3
  | .if_acmp _ _ => 3
  | .ifnull _ => 3
  | .ifnonnull _ => 3
  | .ldc_w _ => 3
  | .ldc2_w _ => 3
  | .getstatic _ => 3
  | .getfield _ => 3
  | .putfield _ => 3
  | .invokestatic _ => 3
  | .invokevirtual _ => 3
  | .invokespecial _ => 3
  | .new _ => 3
  | .anewarray _ => 3
  | _ => 1
def lok_ (i : Instr) (len : Nat) : Bool := match i with
  | .tableswitch _ _ _ _ => true
  | i => len == iln_ i
/-- the machine: fuel, depth, method, place, locals, stack, heap -/
def run_ (xs : Nat → Int32) : Nat → Nat → Nat → Nat → List AV → List AV → AH → Option (OU_ × AH)
  | 0, _, _, _, _, _, _ => none
  | n + 1, d, m, pc, ls, st, h => match decode (cod_ m) pc with
    | .error _ => none
    | .ok (i, len) => if lok_ i len = true then
      (match i with
      | .ireturn => (match st with
        | [.inl x] => if rb_ (rty_ m) x = true then some (some (some (.inl x)), h) else none
        | _ => none)
      | .lreturn => (match st with
        | [.inr (.inl x)] => if rty_ m = some .long then some (some (some (.inr (.inl x))), h) else none
        | _ => none)
      | .areturn => (match st with
        | [.inr (.inr (.inl x))] => (match rty_ m with
          | some (.object _) => some (some (some (.inr (.inr (.inl x)))), h)
          | _ => none)
        | _ => none)
      | .return_ => (match st with
        | [] => if rty_ m = none then some (some none, h) else none
        | _ => none)
      | .invokestatic x => cal_ (run_ xs n) d m pc ls st h (mth_ (kap_ m) x) 0
      | .invokevirtual x => cal_ (run_ xs n) d m pc ls st h (mth_ (kap_ m) x) 1
      | .invokespecial x => cal_ (run_ xs n) d m pc ls st h (mth_ (kap_ m) x) 2
      | _ => if thr_ m pc = true then (match st with
        | [] => some (none, xh_ h)
        | _ => none) else (match ex_ xs m pc len i ls st h with
        | some (pc', ls', st', h') => run_ xs n d m pc' ls' st' h'
        | none => none)) else none
end
section
/-! V: the small machine comes to an end with Q; its rules -/
def V_ (xs : Nat → Int32) (d m pc : Nat) (ls st : List AV) (h : AH) (Q : OU_ → AH → Prop) : Prop := ∃ (n : Nat) (o : OU_) (h' : AH), run_ xs n d m pc ls st h = some (o, h') ∧ Q o h'
theorem cal_le {rn rn' : Nat → Nat → Nat → List AV → List AV → AH → Option (OU_ × AH)} (H : ∀ d d' m pc ls st h r, d ≤ d' → rn d m pc ls st h = some r → rn' d' m pc ls st h = some r) {d d' m pc : Nat} {ls st : List AV} {h : AH} {c : Option (Nat × Nat × Nat)} {ct : Nat} {r : OU_ × AH} (hd : d ≤ d') (hc : cal_ rn d m pc ls st h c ct = some r) : cal_ rn' d' m pc ls st h c ct = some r := by
  unfold cal_ at hc ⊢
  cases c with
  | none => cases hc
  | some c =>
    obtain ⟨q, j, nst⟩ := c
    dsimp only at hc ⊢
    by_cases hq : q = 1000
    · rw [if_pos hq] at hc ⊢
      split at hc
      · split at hc
        · rename_i hh
          rw [if_pos ⟨hh.1, hh.2.1, hh.2.2.1, Nat.lt_of_lt_of_le hh.2.2.2 hd⟩]
          exact H _ _ _ _ _ _ _ _ hd hc
        · cases hc
      · cases hc
    · rw [if_neg hq] at hc ⊢
      cases d with
      | zero => cases hc
      | succ d =>
        cases d' with
        | zero => omega
        | succ d' =>
          have hd' : d ≤ d' := by omega
          dsimp only at hc ⊢
          split at hc
          · rename_i hh
            rw [if_pos hh]
            cases hr : rn d q 0 (ent_ (st.take (nar_ q)).reverse (mxl_ q)) [] h with
            | none => rw [hr] at hc; cases hc
            | some r1 =>
              rw [hr] at hc
              rw [H _ _ _ _ _ _ _ _ hd' hr]
              obtain ⟨o, h'⟩ := r1
              cases o with
              | none =>
                dsimp only at hc ⊢
                split at hc
                · exact H _ _ _ _ _ _ _ _ hd hc
                · cases hc
              | some o =>
                cases o with
                | none => exact H _ _ _ _ _ _ _ _ hd hc
                | some v => exact H _ _ _ _ _ _ _ _ hd hc
          · cases hc
theorem run_le {xs : Nat → Int32} : ∀ (n n' d d' m pc : Nat) (ls st : List AV) (h : AH) (r : OU_ × AH), n ≤ n' → d ≤ d' → run_ xs n d m pc ls st h = some r → run_ xs n' d' m pc ls st h = some r := by
  intro n
  induction n with
  | zero => intro n' d d' m pc ls st h r _ _ hr; unfold run_ at hr; cases hr
  | succ n ih =>
    intro n' d d' m pc ls st h r hn hd hr
    cases n' with
    | zero => omega
    | succ n' =>
      have hn' : n ≤ n' := by omega
      have H : ∀ d d' m pc ls st h r, d ≤ d' → run_ xs n d m pc ls st h = some r → run_ xs n' d' m pc ls st h = some r := fun d d' m pc ls st h r q1 q2 => ih n' d d' m pc ls st h r hn' q1 q2
      unfold run_ at hr ⊢
      cases hdc : decode (cod_ m) pc with
      | error e => rw [hdc] at hr; cases hr
      | ok il =>
        obtain ⟨i, len⟩ := il
        rw [hdc] at hr
        dsimp only at hr ⊢
        by_cases hk : lok_ i len = true
        · rw [if_pos hk] at hr ⊢
          split at hr <;> first | exact hr | exact cal_le H hd hr | skip
          split at hr
          · rename_i ht
            rw [if_pos ht]
            exact hr
          · rename_i ht
            rw [if_neg ht]
            split at hr
            · exact H _ _ _ _ _ _ _ _ hd hr
            · cases hr
        · rw [if_neg hk] at hr
          cases hr
theorem V_le {xs : Nat → Int32} {d d' m pc : Nat} {ls st : List AV} {h : AH} {Q : OU_ → AH → Prop} (hd : d ≤ d') (hv : V_ xs d m pc ls st h Q) : V_ xs d' m pc ls st h Q := by
  obtain ⟨n, o, h', h1, h2⟩ := hv
  exact ⟨n, o, h', run_le n n d d' m pc ls st h _ (Nat.le_refl _) hd h1, h2⟩
theorem V_mono {xs : Nat → Int32} {d m pc : Nat} {ls st : List AV} {h : AH} {Q Q' : OU_ → AH → Prop} (hv : V_ xs d m pc ls st h Q) (hq : ∀ o h', Q o h' → Q' o h') : V_ xs d m pc ls st h Q' := by
  obtain ⟨n, o, h', h1, h2⟩ := hv
  exact ⟨n, o, h', h1, hq _ _ h2⟩
/-- an instruction that is no return and no call -/
def pln_ (i : Instr) : Bool := match i with
  | .ireturn => false
  | .lreturn => false
  | .areturn => false
  | .return_ => false
  | .invokestatic _ => false
  | .invokevirtual _ => false
  | .invokespecial _ => false
  | _ => true
theorem run_pln {xs : Nat → Int32} {n d m pc len : Nat} {i : Instr} {ls st : List AV} {h : AH} (hd : decode (cod_ m) pc = .ok (i, len)) (hk : lok_ i len = true) (hp : pln_ i = true) (ht : thr_ m pc = false) : run_ xs (n + 1) d m pc ls st h = (match ex_ xs m pc len i ls st h with
        | some (pc', ls', st', h') => run_ xs n d m pc' ls' st' h'
        | none => none) := by
  conv => lhs; unfold run_
  rw [hd]
  dsimp only
  rw [if_pos hk]
  cases i <;> first | (cases hp; done) | (dsimp only; rw [ht]; rfl)
theorem V_ex {xs : Nat → Int32} {d m pc len : Nat} {i : Instr} {ls st : List AV} {h : AH} {Q : OU_ → AH → Prop} {pc' : Nat} {ls' st' : List AV} {h' : AH} (hd : decode (cod_ m) pc = .ok (i, len)) (hk : lok_ i len = true) (hp : pln_ i = true) (ht : thr_ m pc = false) (he : ex_ xs m pc len i ls st h = some (pc', ls', st', h')) : V_ xs d m pc ls st h Q ↔ V_ xs d m pc' ls' st' h' Q := by
  constructor
  · rintro ⟨n, o, hh, h1, h2⟩
    cases n with
    | zero => unfold run_ at h1; cases h1
    | succ n =>
      rw [run_pln hd hk hp ht, he] at h1
      exact ⟨n, o, hh, h1, h2⟩
  · rintro ⟨n, o, hh, h1, h2⟩
    exact ⟨n + 1, o, hh, by rw [run_pln hd hk hp ht, he]; exact h1, h2⟩
theorem V_exN {xs : Nat → Int32} {d m pc len : Nat} {i : Instr} {ls st : List AV} {h : AH} {Q : OU_ → AH → Prop} (hd : decode (cod_ m) pc = .ok (i, len)) (hk : lok_ i len = true) (hp : pln_ i = true) (ht : thr_ m pc = false) (he : ex_ xs m pc len i ls st h = none) : V_ xs d m pc ls st h Q ↔ False := by
  constructor
  · rintro ⟨n, o, hh, h1, h2⟩
    cases n with
    | zero => unfold run_ at h1; cases h1
    | succ n =>
      rw [run_pln hd hk hp ht, he] at h1
      cases h1
  · exact False.elim
theorem thr_no {m pc len : Nat} {i : Instr} (hd : decode (cod_ m) pc = .ok (i, len)) (hn : ∀ x, i ≠ .new x) : thr_ m pc = false := by
  unfold thr_
  rw [hd]
  split
  · rename_i e1 e2 e3 e4
    cases e1
    exact absurd rfl (hn _)
  · rfl
/-- one step of the machine, whatever it is -/
theorem V_one {xs : Nat → Int32} {d m pc : Nat} {ls st : List AV} {h : AH} {Q : OU_ → AH → Prop} : V_ xs d m pc ls st h Q ↔ ∃ n o h', run_ xs (n + 1) d m pc ls st h = some (o, h') ∧ Q o h' := by
  constructor
  · rintro ⟨n, o, hh, h1, h2⟩
    exact ⟨n, o, hh, run_le n (n + 1) d d m pc ls st h _ (by omega) (Nat.le_refl _) h1, h2⟩
  · rintro ⟨n, o, hh, h1, h2⟩
    exact ⟨n + 1, o, hh, h1, h2⟩
theorem V_iret {xs : Nat → Int32} {d m pc : Nat} {ls : List AV} {h : AH} {Q : OU_ → AH → Prop} {x : Int32} (hd : decode (cod_ m) pc = .ok (.ireturn, 1)) : V_ xs d m pc ls [.inl x] h Q ↔ (rb_ (rty_ m) x = true ∧ Q (some (some (.inl x))) h) := by
  rw [V_one]
  unfold run_
  rw [hd]
  constructor
  · rintro ⟨n, o, hh, h1, h2⟩
    dsimp only at h1
    rw [if_pos (show lok_ .ireturn 1 = true from rfl)] at h1
    split at h1
    · rename_i hr
      cases h1
      exact ⟨hr, h2⟩
    · cases h1
  · rintro ⟨h1, h2⟩
    exact ⟨0, _, _, by dsimp only; rw [if_pos (show lok_ .ireturn 1 = true from rfl), if_pos h1], h2⟩
theorem V_lret {xs : Nat → Int32} {d m pc : Nat} {ls : List AV} {h : AH} {Q : OU_ → AH → Prop} {x : Int64} (hd : decode (cod_ m) pc = .ok (.lreturn, 1)) (hr : rty_ m = some .long) : V_ xs d m pc ls [.inr (.inl x)] h Q ↔ Q (some (some (.inr (.inl x)))) h := by
  rw [V_one]
  unfold run_
  rw [hd]
  constructor
  · rintro ⟨n, o, hh, h1, h2⟩
    dsimp only at h1
    rw [if_pos (show lok_ .lreturn 1 = true from rfl)] at h1
    rw [if_pos hr] at h1
    cases h1
    exact h2
  · intro h2
    exact ⟨0, _, _, by dsimp only; rw [if_pos (show lok_ .lreturn 1 = true from rfl), if_pos hr], h2⟩
theorem V_aret {xs : Nat → Int32} {d m pc : Nat} {ls : List AV} {h : AH} {Q : OU_ → AH → Prop} {x : Option Nat} {c : String} (hd : decode (cod_ m) pc = .ok (.areturn, 1)) (hr : rty_ m = some (.object c)) : V_ xs d m pc ls [.inr (.inr (.inl x))] h Q ↔ Q (some (some (.inr (.inr (.inl x))))) h := by
  rw [V_one]
  unfold run_
  rw [hd]
  constructor
  · rintro ⟨n, o, hh, h1, h2⟩
    dsimp only at h1
    rw [if_pos (show lok_ .areturn 1 = true from rfl)] at h1
    rw [hr] at h1
    cases h1
    exact h2
  · intro h2
    exact ⟨0, _, _, by dsimp only; rw [if_pos (show lok_ .areturn 1 = true from rfl), hr], h2⟩
theorem V_vret {xs : Nat → Int32} {d m pc : Nat} {ls : List AV} {h : AH} {Q : OU_ → AH → Prop} (hd : decode (cod_ m) pc = .ok (.return_, 1)) (hr : rty_ m = none) : V_ xs d m pc ls [] h Q ↔ Q (some none) h := by
  rw [V_one]
  unfold run_
  rw [hd]
  constructor
  · rintro ⟨n, o, hh, h1, h2⟩
    dsimp only at h1
    rw [if_pos (show lok_ .return_ 1 = true from rfl)] at h1
    rw [if_pos hr] at h1
    cases h1
    exact h2
  · intro h2
    exact ⟨0, _, _, by dsimp only; rw [if_pos (show lok_ .return_ 1 = true from rfl), if_pos hr], h2⟩
/-- what goes on behind a call (pc: the place behind it) -/
def K_ (xs : Nat → Int32) (d m pc : Nat) (ls st : List AV) (Q : OU_ → AH → Prop) : OU_ → AH → Prop := fun o h' => match o with
  | some (some v) => V_ xs d m pc ls (v :: st) h' Q
  | some none => V_ xs d m pc ls st h' Q
  | none => match hnd_ m (pc - 3) with
    | some pc' => V_ xs d m pc' ls [.inr (.inr (.inl (some (mk_ (nx_ h' - 1) 40 0))))] h' Q
    | none => False
theorem V_cal {xs : Nat → Int32} {d m pc : Nat} {ls st : List AV} {h : AH} {Q : OU_ → AH → Prop} {q j z ct : Nat} (h1 : ∀ n, run_ xs (n + 1) d m pc ls st h = cal_ (run_ xs n) d m pc ls st h (some (q, j, z)) ct) (hq : q < 200) (hc : cty_ ct q = true) (hn : nar_ q ≤ st.length) :
    V_ xs d m pc ls st h Q ↔ (0 < d ∧ ((st.drop (nar_ q)).map acat_).sum ≤ 8 ∧ rok_ (rcv_ q) st (nar_ q) = true ∧ V_ xs (d - 1) q 0 (ent_ (st.take (nar_ q)).reverse (mxl_ q)) [] h (K_ xs d m (pc + 3) ls (st.drop (nar_ q)) Q)) := by
  rw [V_one]
  simp only [h1]
  have hq' : ¬ q = 1000 := by omega
  constructor
  · rintro ⟨n, o, hh, h2, h3⟩
    unfold cal_ at h2
    dsimp only at h2
    rw [if_neg hq'] at h2
    cases d with
    | zero => cases h2
    | succ d =>
      dsimp only at h2
      split at h2
      · rename_i hok
        refine ⟨by omega, hok.2.2.1, hok.2.2.2.1, ?_⟩
        rw [show d + 1 - 1 = d by omega]
        split at h2
        · rename_i v h' hr
          exact ⟨n, _, _, hr, n, o, hh, h2, h3⟩
        · rename_i h' hr
          exact ⟨n, _, _, hr, n, o, hh, h2, h3⟩
        · rename_i h' hr
          refine ⟨n, _, _, hr, ?_⟩
          show (match hnd_ m (pc + 3 - 3) with
            | some pc' => V_ xs (d + 1) m pc' ls [.inr (.inr (.inl (some (mk_ (nx_ h' - 1) 40 0))))] h' Q
            | none => False)
          rw [show pc + 3 - 3 = pc by omega]
          split at h2
          · rename_i pc' he
            rw [he]
            exact ⟨n, o, hh, h2, h3⟩
          · cases h2
        · cases h2
      · cases h2
  · rintro ⟨h0, hs, hr, hv⟩
    cases d with
    | zero => omega
    | succ d =>
      rw [show d + 1 - 1 = d by omega] at hv
      obtain ⟨n, o, h', g1, g2⟩ := hv
      have fin : ∀ {pc' : Nat} {st' : List AV}, V_ xs (d + 1) m pc' ls st' h' Q → ∃ n' o' h'', n ≤ n' ∧ run_ xs n' (d + 1) m pc' ls st' h' = some (o', h'') ∧ Q o' h'' := by
        rintro pc' st' ⟨n2, o2, h2, k1, k2⟩
        exact ⟨max n n2, o2, h2, by omega, run_le n2 _ _ _ _ _ _ _ _ _ (by omega) (Nat.le_refl _) k1, k2⟩
      have hok : q < 200 ∧ nar_ q ≤ st.length ∧ ((st.drop (nar_ q)).map acat_).sum ≤ 8 ∧ rok_ (rcv_ q) st (nar_ q) = true ∧ cty_ ct q = true := ⟨hq, hn, hs, hr, hc⟩
      have go : ∀ {n' : Nat}, n ≤ n' → run_ xs n' d q 0 (ent_ (st.take (nar_ q)).reverse (mxl_ q)) [] h = some (o, h') := fun hnn => run_le n _ _ _ _ _ _ _ _ _ hnn (Nat.le_refl _) g1
      cases o with
      | none =>
        have g3 : (match hnd_ m (pc + 3 - 3) with
            | some pc' => V_ xs (d + 1) m pc' ls [.inr (.inr (.inl (some (mk_ (nx_ h' - 1) 40 0))))] h' Q
            | none => False) := g2
        rw [show pc + 3 - 3 = pc by omega] at g3
        cases hh : hnd_ m pc with
        | none => rw [hh] at g3; exact g3.elim
        | some pc' =>
          rw [hh] at g3
          obtain ⟨n', o', h'', k0, k1, k2⟩ := fin g3
          refine ⟨n', o', h'', ?_, k2⟩
          unfold cal_
          dsimp only
          rw [if_neg hq', if_pos hok, go k0]
          dsimp only
          rw [hh]
          exact k1
      | some o =>
        cases o with
        | none =>
          obtain ⟨n', o', h'', k0, k1, k2⟩ := fin (pc' := pc + 3) (st' := st.drop (nar_ q)) g2
          refine ⟨n', o', h'', ?_, k2⟩
          unfold cal_
          dsimp only
          rw [if_neg hq', if_pos hok, go k0]
          exact k1
        | some v =>
          obtain ⟨n', o', h'', k0, k1, k2⟩ := fin (pc' := pc + 3) (st' := v :: st.drop (nar_ q)) g2
          refine ⟨n', o', h'', ?_, k2⟩
          unfold cal_
          dsimp only
          rw [if_neg hq', if_pos hok, go k0]
          exact k1
end
section
/-! rules of V, an instruction each -/
/-- .. and no 'new' -/
def pl2_ (i : Instr) : Bool := match i with
  | .new _ => false
  | i => pln_ i
theorem pl2_of {i : Instr} (h : pl2_ i = true) : pln_ i = true ∧ ∀ x, i ≠ .new x := by
  cases i <;> first | exact ⟨h, fun x e => by cases e⟩ | (cases h; done)
section VINS
variable {xs : Nat → Int32} {d m pc : Nat} {ls st : List AV} {h : AH} {Q : OU_ → AH → Prop}
theorem V_plain {len : Nat} {i : Instr} {pc' : Nat} {ls' st' : List AV} {h' : AH} (hd : decode (cod_ m) pc = .ok (i, len)) (hk0 : lok_ i len = true) (hp : pl2_ i = true) (he : ex_ xs m pc len i ls st h = some (pc', ls', st', h')) : V_ xs d m pc ls st h Q ↔ V_ xs d m pc' ls' st' h' Q := by
  exact V_ex hd hk0 (pl2_of hp).1 (thr_no hd (pl2_of hp).2) he
theorem V_const {len : Nat} {i : Instr} {v : AV} (hd : decode (cod_ m) pc = .ok (i, len)) (hk0 : lok_ i len = true) (hp : pl2_ i = true) (hv : exc_ i = some v) : V_ xs d m pc ls st h Q ↔ V_ xs d m (pc + len) ls (v :: st) h Q :=
  V_plain hd hk0 hp (by unfold ex_; rw [hv])
theorem V_poolk {x len : Nat} {i : Instr} {v : AV} (hd : decode (cod_ m) pc = .ok (i, len)) (hk0 : lok_ i len = true) (hi : i = .ldc x ∨ i = .ldc_w x ∨ i = .ldc2_w x ∨ i = .getstatic x) (hv : exk_ (kap_ m) i = some v) : V_ xs d m pc ls st h Q ↔ V_ xs d m (pc + len) ls (v :: st) h Q := by
  rcases hi with rfl | rfl | rfl | rfl <;> exact V_plain hd hk0 rfl (by unfold ex_; rw [hv]; rfl)
theorem V_load {len : Nat} {i : Instr} {v : AV} (hd : decode (cod_ m) pc = .ok (i, len)) (hk0 : lok_ i len = true) (hp : pl2_ i = true) (hc : exc_ i = none) (hv : exl_ i ls = some v) : V_ xs d m pc ls st h Q ↔ V_ xs d m (pc + len) ls (v :: st) h Q :=
  V_plain hd hk0 hp (by unfold ex_; rw [hc]; dsimp only; rw [hv])
theorem V_arith {len : Nat} {i : Instr} {st' : List AV} (hd : decode (cod_ m) pc = .ok (i, len)) (hk0 : lok_ i len = true) (hp : pl2_ i = true) (hc : exc_ i = none) (hl : exl_ i ls = none) (hv : exa_ i st = some st') : V_ xs d m pc ls st h Q ↔ V_ xs d m (pc + len) ls st' h Q :=
  V_plain hd hk0 hp (by unfold ex_; rw [hc]; dsimp only; rw [hl]; dsimp only; rw [hv])
theorem V_store {len : Nat} {i : Instr} {ls' st' : List AV} (hd : decode (cod_ m) pc = .ok (i, len)) (hk0 : lok_ i len = true) (hp : pl2_ i = true) (hc : exc_ i = none) (hl : exl_ i ls = none) (ha : exa_ i st = none) (hv : exs_ (lgs_ m) i ls st = some (ls', st')) : V_ xs d m pc ls st h Q ↔ V_ xs d m (pc + len) ls' st' h Q :=
  V_plain hd hk0 hp (by unfold ex_; rw [hc]; dsimp only; rw [hl]; dsimp only; rw [ha]; dsimp only; rw [hv])
theorem V_goto {o : Int} {t : Nat} (hd : decode (cod_ m) pc = .ok (.goto o, 3)) (ht : (pc : Int) + o = (t : Int)) : V_ xs d m pc ls st h Q ↔ V_ xs d m t ls st h Q :=
  V_plain hd rfl rfl (by unfold ex_; simp [exc_, exl_, exa_, exs_, exj_, tk_, tg_, ht])
theorem ex_if {c : ClassFile.Cond} {o : Int} {t : Nat} {x : Int32} (ht : (pc : Int) + o = (t : Int)) : ex_ xs m pc 3 (.ifCond c o) ls (.inl x :: st) h = some ((if cb_ c x 0 = true then t else pc + 3), ls, st, h) := by
  unfold ex_
  by_cases q : cb_ c x 0 = true <;> simp [exc_, exl_, exa_, exs_, exj_, tk_, tg_, ht, q]
theorem ex_icmp {c : ClassFile.Cond} {o : Int} {t : Nat} {x y : Int32} (ht : (pc : Int) + o = (t : Int)) : ex_ xs m pc 3 (.if_icmp c o) ls (.inl y :: .inl x :: st) h = some ((if cb_ c x y = true then t else pc + 3), ls, st, h) := by
  unfold ex_
  by_cases q : cb_ c x y = true <;> simp [exc_, exl_, exa_, exs_, exj_, tk_, tg_, ht, q]
theorem V_ite {c : Prop} (hc : Decidable c) {a b : Nat} : V_ xs d m (if c then a else b) ls st h Q ↔ (if c then V_ xs d m a ls st h Q else V_ xs d m b ls st h Q) := by split <;> exact Iff.rfl
theorem V_ifeq {o : Int} {t : Nat} {x : Int32} (hd : decode (cod_ m) pc = .ok (.ifCond .eq o, 3)) (ht : (pc : Int) + o = (t : Int)) : V_ xs d m pc ls (.inl x :: st) h Q ↔ (if x = 0 then V_ xs d m t ls st h Q else V_ xs d m (pc + 3) ls st h Q) := by
  rw [V_plain hd rfl rfl (ex_if ht)]
  by_cases q : x = 0 <;> simp [cb_, q]
theorem V_ifne {o : Int} {t : Nat} {x : Int32} (hd : decode (cod_ m) pc = .ok (.ifCond .ne o, 3)) (ht : (pc : Int) + o = (t : Int)) : V_ xs d m pc ls (.inl x :: st) h Q ↔ (if x = 0 then V_ xs d m (pc + 3) ls st h Q else V_ xs d m t ls st h Q) := by
  rw [V_plain hd rfl rfl (ex_if ht)]
  by_cases q : x = 0 <;> simp [cb_, q]
theorem V_iflt {o : Int} {t : Nat} {x : Int32} (hd : decode (cod_ m) pc = .ok (.ifCond .lt o, 3)) (ht : (pc : Int) + o = (t : Int)) : V_ xs d m pc ls (.inl x :: st) h Q ↔ (if x < 0 then V_ xs d m t ls st h Q else V_ xs d m (pc + 3) ls st h Q) := by
  rw [V_plain hd rfl rfl (ex_if ht)]
  by_cases q : x < 0 <;> simp [cb_, q]
theorem i_ge {x y : Int32} : y ≤ x ↔ ¬ x < y := by
  simp only [Int32.le_iff_toInt_le, Int32.lt_iff_toInt_lt]; omega
theorem V_ifge {o : Int} {t : Nat} {x : Int32} (hd : decode (cod_ m) pc = .ok (.ifCond .ge o, 3)) (ht : (pc : Int) + o = (t : Int)) : V_ xs d m pc ls (.inl x :: st) h Q ↔ (if x < 0 then V_ xs d m (pc + 3) ls st h Q else V_ xs d m t ls st h Q) := by
  rw [V_plain hd rfl rfl (ex_if ht)]
  have e : cb_ .ge x 0 = true ↔ ¬ x < 0 := by unfold cb_; rw [decide_eq_true_iff]; exact i_ge
  by_cases q : x < 0
  · rw [if_neg (fun z => (e.mp z) q), if_pos q]
  · rw [if_pos (e.mpr q), if_neg q]
theorem V_ifgt {o : Int} {t : Nat} {x : Int32} (hd : decode (cod_ m) pc = .ok (.ifCond .gt o, 3)) (ht : (pc : Int) + o = (t : Int)) : V_ xs d m pc ls (.inl x :: st) h Q ↔ (if 0 < x then V_ xs d m t ls st h Q else V_ xs d m (pc + 3) ls st h Q) := by
  rw [V_plain hd rfl rfl (ex_if ht)]
  by_cases q : 0 < x <;> simp [cb_, q]
theorem V_ifle {o : Int} {t : Nat} {x : Int32} (hd : decode (cod_ m) pc = .ok (.ifCond .le o, 3)) (ht : (pc : Int) + o = (t : Int)) : V_ xs d m pc ls (.inl x :: st) h Q ↔ (if 0 < x then V_ xs d m (pc + 3) ls st h Q else V_ xs d m t ls st h Q) := by
  rw [V_plain hd rfl rfl (ex_if ht)]
  have e : cb_ .le x 0 = true ↔ ¬ 0 < x := by unfold cb_; rw [decide_eq_true_iff]; exact i_ge
  by_cases q : 0 < x
  · rw [if_neg (fun z => (e.mp z) q), if_pos q]
  · rw [if_pos (e.mpr q), if_neg q]
theorem V_iceq {o : Int} {t : Nat} {x y : Int32} (hd : decode (cod_ m) pc = .ok (.if_icmp .eq o, 3)) (ht : (pc : Int) + o = (t : Int)) : V_ xs d m pc ls (.inl y :: .inl x :: st) h Q ↔ (if x = y then V_ xs d m t ls st h Q else V_ xs d m (pc + 3) ls st h Q) := by
  rw [V_plain hd rfl rfl (ex_icmp ht)]
  by_cases q : x = y <;> simp [cb_, q]
theorem V_icne {o : Int} {t : Nat} {x y : Int32} (hd : decode (cod_ m) pc = .ok (.if_icmp .ne o, 3)) (ht : (pc : Int) + o = (t : Int)) : V_ xs d m pc ls (.inl y :: .inl x :: st) h Q ↔ (if x = y then V_ xs d m (pc + 3) ls st h Q else V_ xs d m t ls st h Q) := by
  rw [V_plain hd rfl rfl (ex_icmp ht)]
  by_cases q : x = y <;> simp [cb_, q]
theorem V_iclt {o : Int} {t : Nat} {x y : Int32} (hd : decode (cod_ m) pc = .ok (.if_icmp .lt o, 3)) (ht : (pc : Int) + o = (t : Int)) : V_ xs d m pc ls (.inl y :: .inl x :: st) h Q ↔ (if x < y then V_ xs d m t ls st h Q else V_ xs d m (pc + 3) ls st h Q) := by
  rw [V_plain hd rfl rfl (ex_icmp ht)]
  by_cases q : x < y <;> simp [cb_, q]
theorem V_icge {o : Int} {t : Nat} {x y : Int32} (hd : decode (cod_ m) pc = .ok (.if_icmp .ge o, 3)) (ht : (pc : Int) + o = (t : Int)) : V_ xs d m pc ls (.inl y :: .inl x :: st) h Q ↔ (if x < y then V_ xs d m (pc + 3) ls st h Q else V_ xs d m t ls st h Q) := by
  rw [V_plain hd rfl rfl (ex_icmp ht)]
  have e : cb_ .ge x y = true ↔ ¬ x < y := by unfold cb_; rw [decide_eq_true_iff]; exact i_ge
  by_cases q : x < y
  · rw [if_neg (fun z => (e.mp z) q), if_pos q]
  · rw [if_pos (e.mpr q), if_neg q]
theorem V_icgt {o : Int} {t : Nat} {x y : Int32} (hd : decode (cod_ m) pc = .ok (.if_icmp .gt o, 3)) (ht : (pc : Int) + o = (t : Int)) : V_ xs d m pc ls (.inl y :: .inl x :: st) h Q ↔ (if y < x then V_ xs d m t ls st h Q else V_ xs d m (pc + 3) ls st h Q) := by
  rw [V_plain hd rfl rfl (ex_icmp ht)]
  by_cases q : y < x <;> simp [cb_, q]
theorem V_icle {o : Int} {t : Nat} {x y : Int32} (hd : decode (cod_ m) pc = .ok (.if_icmp .le o, 3)) (ht : (pc : Int) + o = (t : Int)) : V_ xs d m pc ls (.inl y :: .inl x :: st) h Q ↔ (if y < x then V_ xs d m (pc + 3) ls st h Q else V_ xs d m t ls st h Q) := by
  rw [V_plain hd rfl rfl (ex_icmp ht)]
  have e : cb_ .le x y = true ↔ ¬ y < x := by unfold cb_; rw [decide_eq_true_iff]; exact i_ge
  by_cases q : y < x
  · rw [if_neg (fun z => (e.mp z) q), if_pos q]
  · rw [if_pos (e.mpr q), if_neg q]
theorem V_ifnull {o : Int} {t : Nat} {x : Option Nat} (hd : decode (cod_ m) pc = .ok (.ifnull o, 3)) (ht : (pc : Int) + o = (t : Int)) : V_ xs d m pc ls (.inr (.inr (.inl x)) :: st) h Q ↔ (if x = none then V_ xs d m t ls st h Q else V_ xs d m (pc + 3) ls st h Q) := by
  have e : ex_ xs m pc 3 (.ifnull o) ls (.inr (.inr (.inl x)) :: st) h = some ((if x = none then t else pc + 3), ls, st, h) := by
    unfold ex_
    by_cases q : x = none <;> simp [exc_, exl_, exa_, exs_, exj_, tk_, tg_, ht, q]
  rw [V_plain hd rfl rfl e]
  by_cases q : x = none <;> simp [q]
theorem V_ifnonnull {o : Int} {t : Nat} {x : Option Nat} (hd : decode (cod_ m) pc = .ok (.ifnonnull o, 3)) (ht : (pc : Int) + o = (t : Int)) : V_ xs d m pc ls (.inr (.inr (.inl x)) :: st) h Q ↔ (if x = none then V_ xs d m (pc + 3) ls st h Q else V_ xs d m t ls st h Q) := by
  have e : ex_ xs m pc 3 (.ifnonnull o) ls (.inr (.inr (.inl x)) :: st) h = some ((if x = none then pc + 3 else t), ls, st, h) := by
    unfold ex_
    by_cases q : x = none <;> simp [exc_, exl_, exa_, exs_, exj_, tk_, tg_, ht, q]
  rw [V_plain hd rfl rfl e]
  by_cases q : x = none <;> simp [q]
theorem V_acmpeq {o : Int} {t : Nat} {x y : Option Nat} (hd : decode (cod_ m) pc = .ok (.if_acmp .eq o, 3)) (ht : (pc : Int) + o = (t : Int)) (hx : tkb_ x = true) (hy : tkb_ y = true) : V_ xs d m pc ls (.inr (.inr (.inl y)) :: .inr (.inr (.inl x)) :: st) h Q ↔ (if x = y then V_ xs d m t ls st h Q else V_ xs d m (pc + 3) ls st h Q) := by
  have e : ex_ xs m pc 3 (.if_acmp .eq o) ls (.inr (.inr (.inl y)) :: .inr (.inr (.inl x)) :: st) h = some ((if x = y then t else pc + 3), ls, st, h) := by
    unfold ex_
    by_cases q : x = y <;> simp [exc_, exl_, exa_, exs_, exj_, tk_, tg_, ht, q, hx, hy, ca_]
  rw [V_plain hd rfl rfl e]
  by_cases q : x = y <;> simp [q]
theorem V_acmpne {o : Int} {t : Nat} {x y : Option Nat} (hd : decode (cod_ m) pc = .ok (.if_acmp .ne o, 3)) (ht : (pc : Int) + o = (t : Int)) (hx : tkb_ x = true) (hy : tkb_ y = true) : V_ xs d m pc ls (.inr (.inr (.inl y)) :: .inr (.inr (.inl x)) :: st) h Q ↔ (if x = y then V_ xs d m (pc + 3) ls st h Q else V_ xs d m t ls st h Q) := by
  have e : ex_ xs m pc 3 (.if_acmp .ne o) ls (.inr (.inr (.inl y)) :: .inr (.inr (.inl x)) :: st) h = some ((if x = y then pc + 3 else t), ls, st, h) := by
    unfold ex_
    by_cases q : x = y <;> simp [exc_, exl_, exa_, exs_, exj_, tk_, tg_, ht, q, hx, hy, ca_]
  rw [V_plain hd rfl rfl e]
  by_cases q : x = y <;> simp [q]
theorem V_tswIn {dl lo hi : Int} {os : Array Int} {len t : Nat} {x : Int32} {o : Int} (hd : decode (cod_ m) pc = .ok (.tableswitch dl lo hi os, len)) (h1 : ¬ (x.toInt < lo ∨ hi < x.toInt)) (ho : os[(x.toInt - lo).toNat]? = some o) (ht : (pc : Int) + o = (t : Int)) : V_ xs d m pc ls (.inl x :: st) h Q ↔ V_ xs d m t ls st h Q := by
  refine V_plain hd rfl rfl ?_
  unfold ex_
  simp only [exc_, exl_, exa_, exs_, exj_]
  rw [if_neg h1, ho]
  simp [tk_, tg_, ht]
theorem V_tswOut {dl lo hi : Int} {os : Array Int} {len t : Nat} {x : Int32} (hd : decode (cod_ m) pc = .ok (.tableswitch dl lo hi os, len)) (h1 : x.toInt < lo ∨ hi < x.toInt) (ht : (pc : Int) + dl = (t : Int)) : V_ xs d m pc ls (.inl x :: st) h Q ↔ V_ xs d m t ls st h Q := by
  refine V_plain hd rfl rfl ?_
  unfold ex_
  simp only [exc_, exl_, exa_, exs_, exj_]
  rw [if_pos h1]
  simp [tk_, tg_, ht]
/-- a rule of the heap: what it asks, and what goes on -/
theorem V_heap {len : Nat} {i : Instr} {c : Prop} {st' : List AV} {h' : AH} (hd : decode (cod_ m) pc = .ok (i, len)) (hk0 : lok_ i len = true) (hp : pl2_ i = true) (hc : exc_ i = none) (hl : exl_ i ls = none) (ha : exa_ i st = none) (hs : exs_ (lgs_ m) i ls st = none) (hj : exj_ pc i st = none) (hk : exk_ (kap_ m) i = none)
    (ht : c → exh_ xs (kap_ m) ((nam_ m).name == "<init>") i st h = some (st', h')) (hf : ¬ c → exh_ xs (kap_ m) ((nam_ m).name == "<init>") i st h = none) : V_ xs d m pc ls st h Q ↔ (c ∧ V_ xs d m (pc + len) ls st' h' Q) := by
  have e : ∀ r, exh_ xs (kap_ m) ((nam_ m).name == "<init>") i st h = r → ex_ xs m pc len i ls st h = r.map (fun q => (pc + len, ls, q.1, q.2)) := by
    intro r hr
    unfold ex_
    rw [hc]; dsimp only; rw [hl]; dsimp only; rw [ha]; dsimp only; rw [hs]; dsimp only; rw [hj]; dsimp only; rw [hk]; dsimp only; rw [hr]
    cases r <;> rfl
  have hn : thr_ m pc = false := thr_no hd (pl2_of hp).2
  by_cases q : c
  · rw [V_ex hd hk0 (pl2_of hp).1 hn (e _ (ht q))]
    exact ⟨fun z => ⟨q, z⟩, fun z => z.2⟩
  · rw [V_exN hd hk0 (pl2_of hp).1 hn (e _ (hf q))]
    exact ⟨False.elim, fun z => q z.1⟩
theorem V_getI {x kk p t j a : Nat} (hd : decode (cod_ m) pc = .ok (.getfield x, 3)) (hf : fld_ (kap_ m) x = some (kk, p, t, j)) (ht : t ≠ 1 ∧ t ≠ 2) (hk : kk < 16) : V_ xs d m pc ls (.inr (.inr (.inl (some a))) :: st) h Q ↔ (kd_ a = kk ∧ V_ xs d m (pc + 3) ls (.inl (hI_ h a p) :: st) h Q) := by
  refine V_heap hd rfl rfl rfl rfl rfl rfl rfl rfl (fun q => ?_) (fun q => ?_) <;> (unfold exh_; dsimp only; rw [hf]; dsimp only)
  · rw [if_pos q, if_pos hk, if_neg ht.1, if_neg ht.2]
  · rw [if_neg q]
theorem V_getL {x kk p j a : Nat} (hd : decode (cod_ m) pc = .ok (.getfield x, 3)) (hf : fld_ (kap_ m) x = some (kk, p, 1, j)) (hk : kk < 16) : V_ xs d m pc ls (.inr (.inr (.inl (some a))) :: st) h Q ↔ (kd_ a = kk ∧ V_ xs d m (pc + 3) ls (.inr (.inl (hL_ h a p)) :: st) h Q) := by
  refine V_heap hd rfl rfl rfl rfl rfl rfl rfl rfl (fun q => ?_) (fun q => ?_) <;> (unfold exh_; dsimp only; rw [hf]; dsimp only)
  · rw [if_pos q, if_pos hk, if_pos rfl]
  · rw [if_neg q]
theorem V_getR {x kk p j a : Nat} (hd : decode (cod_ m) pc = .ok (.getfield x, 3)) (hf : fld_ (kap_ m) x = some (kk, p, 2, j)) (hk : kk < 16) : V_ xs d m pc ls (.inr (.inr (.inl (some a))) :: st) h Q ↔ (kd_ a = kk ∧ V_ xs d m (pc + 3) ls (.inr (.inr (.inl (hR_ h a p))) :: st) h Q) := by
  refine V_heap hd rfl rfl rfl rfl rfl rfl rfl rfl (fun q => ?_) (fun q => ?_) <;> (unfold exh_; dsimp only; rw [hf]; dsimp only)
  · rw [if_pos q, if_pos hk, if_neg (by decide), if_pos rfl]
  · rw [if_neg q]
theorem V_getCI {x kk p t j a : Nat} (hd : decode (cod_ m) pc = .ok (.getfield x, 3)) (hf : fld_ (kap_ m) x = some (kk, p, t, j)) (ht : t ≠ 2) (hk : ¬ kk < 16) : V_ xs d m pc ls (.inr (.inr (.inl (some a))) :: st) h Q ↔ (kd_ a = kk ∧ V_ xs d m (pc + 3) ls (.inl (cI_ a p) :: st) h Q) := by
  refine V_heap hd rfl rfl rfl rfl rfl rfl rfl rfl (fun q => ?_) (fun q => ?_) <;> (unfold exh_; dsimp only; rw [hf]; dsimp only)
  · rw [if_pos q, if_neg hk, if_neg ht]
  · rw [if_neg q]
theorem V_getCR {x kk p j a : Nat} (hd : decode (cod_ m) pc = .ok (.getfield x, 3)) (hf : fld_ (kap_ m) x = some (kk, p, 2, j)) (hk : ¬ kk < 16) : V_ xs d m pc ls (.inr (.inr (.inl (some a))) :: st) h Q ↔ (kd_ a = kk ∧ V_ xs d m (pc + 3) ls (.inr (.inr (.inl (cR_ a p))) :: st) h Q) := by
  refine V_heap hd rfl rfl rfl rfl rfl rfl rfl rfl (fun q => ?_) (fun q => ?_) <;> (unfold exh_; dsimp only; rw [hf]; dsimp only)
  · rw [if_pos q, if_neg hk, if_pos rfl]
  · rw [if_neg q]
theorem V_putI {x kk p t j a : Nat} {y : Int32} (hd : decode (cod_ m) pc = .ok (.putfield x, 3)) (hf : fld_ (kap_ m) x = some (kk, p, t, j)) (ht : t ≠ 1 ∧ t ≠ 2) (hk : kk < 16) (hfin : (fnl_ kk p = false ∨ ((nam_ m).name == "<init>") = true ∧ kap_ m = kk)) : V_ xs d m pc ls (.inl y :: .inr (.inr (.inl (some a))) :: st) h Q ↔ ((kd_ a = kk ∧ nb_ t y = true) ∧ V_ xs d m (pc + 3) ls st (uI_ h a (st_ (hI_ h a) p y)) Q) := by
  refine V_heap hd rfl rfl rfl rfl rfl rfl rfl rfl (fun q => ?_) (fun q => ?_) <;> (unfold exh_; dsimp only; rw [hf]; dsimp only)
  · rw [if_pos ⟨q.1, hk, hfin⟩, if_pos ⟨ht.1, ht.2, q.2⟩]
  · by_cases q1 : kd_ a = kk
    · rw [if_pos ⟨q1, hk, hfin⟩, if_neg (fun z => q ⟨q1, z.2.2⟩)]
    · rw [if_neg (fun z => q1 z.1)]
theorem V_putL {x kk p j a : Nat} {y : Int64} (hd : decode (cod_ m) pc = .ok (.putfield x, 3)) (hf : fld_ (kap_ m) x = some (kk, p, 1, j)) (hk : kk < 16) (hfin : (fnl_ kk p = false ∨ ((nam_ m).name == "<init>") = true ∧ kap_ m = kk)) : V_ xs d m pc ls (.inr (.inl y) :: .inr (.inr (.inl (some a))) :: st) h Q ↔ (kd_ a = kk ∧ V_ xs d m (pc + 3) ls st (uL_ h a (st_ (hL_ h a) p y)) Q) := by
  refine V_heap hd rfl rfl rfl rfl rfl rfl rfl rfl (fun q => ?_) (fun q => ?_) <;> (unfold exh_; dsimp only; rw [hf]; dsimp only)
  · rw [if_pos ⟨q, hk, hfin⟩, if_pos rfl]
  · rw [if_neg (fun z => q z.1)]
theorem V_putR {x kk p j a : Nat} {y : Option Nat} (hd : decode (cod_ m) pc = .ok (.putfield x, 3)) (hf : fld_ (kap_ m) x = some (kk, p, 2, j)) (hk : kk < 16) (hfin : (fnl_ kk p = false ∨ ((nam_ m).name == "<init>") = true ∧ kap_ m = kk)) : V_ xs d m pc ls (.inr (.inr (.inl y)) :: .inr (.inr (.inl (some a))) :: st) h Q ↔ (kd_ a = kk ∧ V_ xs d m (pc + 3) ls st (uR_ h a (st_ (hR_ h a) p y)) Q) := by
  refine V_heap hd rfl rfl rfl rfl rfl rfl rfl rfl (fun q => ?_) (fun q => ?_) <;> (unfold exh_; dsimp only; rw [hf]; dsimp only)
  · rw [if_pos ⟨q, hk, hfin⟩, if_pos rfl]
  · rw [if_neg (fun z => q z.1)]
/-- an index is in its row -/
def ix_ (i : Int32) (n : Nat) : Prop := 0 ≤ i.toInt ∧ i.toInt < n
theorem inb_iff {i : Int32} {n : Nat} : inb_ i n = true ↔ ix_ i n := by
  unfold inb_ ix_
  rw [Bool.and_eq_true, decide_eq_true_iff, decide_eq_true_iff]
theorem V_iald {a : Nat} {i : Int32} (hd : decode (cod_ m) pc = .ok (.iaload, 1)) (hk : kd_ a = 16) : V_ xs d m pc ls (.inl i :: .inr (.inr (.inl (some a))) :: st) h Q ↔ (ix_ i (ln_ a) ∧ V_ xs d m (pc + 1) ls (.inl (hI_ h a i.toNatClampNeg) :: st) h Q) := by
  refine V_heap hd rfl rfl rfl rfl rfl rfl rfl rfl (fun q => ?_) (fun q => ?_) <;> (unfold exh_; dsimp only)
  · rw [if_pos (inb_iff.mpr q), if_pos hk]
  · rw [if_neg (fun z => q (inb_iff.mp z))]
theorem V_iaxs {a : Nat} {i : Int32} (hd : decode (cod_ m) pc = .ok (.iaload, 1)) (hk : kd_ a = 36) : V_ xs d m pc ls (.inl i :: .inr (.inr (.inl (some a))) :: st) h Q ↔ (ix_ i (ln_ a) ∧ V_ xs d m (pc + 1) ls (.inl (xs i.toNatClampNeg) :: st) h Q) := by
  refine V_heap hd rfl rfl rfl rfl rfl rfl rfl rfl (fun q => ?_) (fun q => ?_) <;> (unfold exh_; dsimp only)
  · rw [if_pos (inb_iff.mpr q), if_neg (by rw [hk]; decide), if_pos hk]
  · rw [if_neg (fun z => q (inb_iff.mp z))]
theorem V_bald {a : Nat} {i : Int32} (hd : decode (cod_ m) pc = .ok (.baload, 1)) (hk : kd_ a = 17 ∨ kd_ a = 18) : V_ xs d m pc ls (.inl i :: .inr (.inr (.inl (some a))) :: st) h Q ↔ (ix_ i (ln_ a) ∧ V_ xs d m (pc + 1) ls (.inl (hI_ h a i.toNatClampNeg) :: st) h Q) := by
  refine V_heap hd rfl rfl rfl rfl rfl rfl rfl rfl (fun q => ?_) (fun q => ?_) <;> (unfold exh_; dsimp only)
  · rw [if_pos (inb_iff.mpr q), if_pos hk]
  · rw [if_neg (fun z => q (inb_iff.mp z))]
theorem V_baldC {a : Nat} {i : Int32} (hd : decode (cod_ m) pc = .ok (.baload, 1)) (hk : kd_ a = 34) : V_ xs d m pc ls (.inl i :: .inr (.inr (.inl (some a))) :: st) h Q ↔ (ix_ i (ln_ a) ∧ V_ xs d m (pc + 1) ls (.inl (cI_ a i.toNatClampNeg) :: st) h Q) := by
  refine V_heap hd rfl rfl rfl rfl rfl rfl rfl rfl (fun q => ?_) (fun q => ?_) <;> (unfold exh_; dsimp only)
  · rw [if_pos (inb_iff.mpr q), if_neg (by rw [hk]; decide), if_pos hk]
  · rw [if_neg (fun z => q (inb_iff.mp z))]
theorem V_lald {a : Nat} {i : Int32} (hd : decode (cod_ m) pc = .ok (.laload, 1)) (hk : kd_ a = 19) : V_ xs d m pc ls (.inl i :: .inr (.inr (.inl (some a))) :: st) h Q ↔ (ix_ i (ln_ a) ∧ V_ xs d m (pc + 1) ls (.inr (.inl (hL_ h a i.toNatClampNeg)) :: st) h Q) := by
  refine V_heap hd rfl rfl rfl rfl rfl rfl rfl rfl (fun q => ?_) (fun q => ?_) <;> (unfold exh_; dsimp only)
  · rw [if_pos ⟨inb_iff.mpr q, hk⟩]
  · rw [if_neg (fun z => q (inb_iff.mp z.1))]
theorem V_aald {a : Nat} {i : Int32} (hd : decode (cod_ m) pc = .ok (.aaload, 1)) (hk : kd_ a = 20 ∨ kd_ a = 21 ∨ kd_ a = 22) : V_ xs d m pc ls (.inl i :: .inr (.inr (.inl (some a))) :: st) h Q ↔ (ix_ i (ln_ a) ∧ V_ xs d m (pc + 1) ls (.inr (.inr (.inl (hR_ h a i.toNatClampNeg))) :: st) h Q) := by
  refine V_heap hd rfl rfl rfl rfl rfl rfl rfl rfl (fun q => ?_) (fun q => ?_) <;> (unfold exh_; dsimp only)
  · rw [if_pos (inb_iff.mpr q), if_pos hk]
  · rw [if_neg (fun z => q (inb_iff.mp z))]
theorem V_aaldC {a : Nat} {i : Int32} (hd : decode (cod_ m) pc = .ok (.aaload, 1)) (hk : kd_ a = 35) : V_ xs d m pc ls (.inl i :: .inr (.inr (.inl (some a))) :: st) h Q ↔ (ix_ i (ln_ a) ∧ V_ xs d m (pc + 1) ls (.inr (.inr (.inl (cR_ a i.toNatClampNeg))) :: st) h Q) := by
  refine V_heap hd rfl rfl rfl rfl rfl rfl rfl rfl (fun q => ?_) (fun q => ?_) <;> (unfold exh_; dsimp only)
  · rw [if_pos (inb_iff.mpr q), if_neg (by rw [hk]; decide), if_pos hk]
  · rw [if_neg (fun z => q (inb_iff.mp z))]
theorem V_iast {a : Nat} {i v : Int32} (hd : decode (cod_ m) pc = .ok (.iastore, 1)) (hk : kd_ a = 16) : V_ xs d m pc ls (.inl v :: .inl i :: .inr (.inr (.inl (some a))) :: st) h Q ↔ (ix_ i (ln_ a) ∧ V_ xs d m (pc + 1) ls st (uI_ h a (st_ (hI_ h a) i.toNatClampNeg v)) Q) := by
  refine V_heap hd rfl rfl rfl rfl rfl rfl rfl rfl (fun q => ?_) (fun q => ?_) <;> (unfold exh_; dsimp only)
  · rw [if_pos ⟨inb_iff.mpr q, hk⟩]
  · rw [if_neg (fun z => q (inb_iff.mp z.1))]
theorem V_bast {a : Nat} {i v : Int32} (hd : decode (cod_ m) pc = .ok (.bastore, 1)) (hk : kd_ a = 17 ∧ nb_ 4 v = true ∨ kd_ a = 18 ∧ nb_ 3 v = true) : V_ xs d m pc ls (.inl v :: .inl i :: .inr (.inr (.inl (some a))) :: st) h Q ↔ (ix_ i (ln_ a) ∧ V_ xs d m (pc + 1) ls st (uI_ h a (st_ (hI_ h a) i.toNatClampNeg v)) Q) := by
  refine V_heap hd rfl rfl rfl rfl rfl rfl rfl rfl (fun q => ?_) (fun q => ?_) <;> (unfold exh_; dsimp only)
  · rw [if_pos ⟨inb_iff.mpr q, hk⟩]
  · rw [if_neg (fun z => q (inb_iff.mp z.1))]
theorem V_last {a : Nat} {i : Int32} {v : Int64} (hd : decode (cod_ m) pc = .ok (.lastore, 1)) (hk : kd_ a = 19) : V_ xs d m pc ls (.inr (.inl v) :: .inl i :: .inr (.inr (.inl (some a))) :: st) h Q ↔ (ix_ i (ln_ a) ∧ V_ xs d m (pc + 1) ls st (uL_ h a (st_ (hL_ h a) i.toNatClampNeg v)) Q) := by
  refine V_heap hd rfl rfl rfl rfl rfl rfl rfl rfl (fun q => ?_) (fun q => ?_) <;> (unfold exh_; dsimp only)
  · rw [if_pos ⟨inb_iff.mpr q, hk⟩]
  · rw [if_neg (fun z => q (inb_iff.mp z.1))]
theorem V_aast {a : Nat} {i : Int32} {v : Option Nat} (hd : decode (cod_ m) pc = .ok (.aastore, 1)) (hk : kd_ a = 20 ∧ ok1_ 0 v = true ∨ kd_ a = 21 ∧ ok1_ 4 v = true ∨ kd_ a = 22 ∧ ok1_ 32 v = true) : V_ xs d m pc ls (.inr (.inr (.inl v)) :: .inl i :: .inr (.inr (.inl (some a))) :: st) h Q ↔ (ix_ i (ln_ a) ∧ V_ xs d m (pc + 1) ls st (uR_ h a (st_ (hR_ h a) i.toNatClampNeg v)) Q) := by
  refine V_heap hd rfl rfl rfl rfl rfl rfl rfl rfl (fun q => ?_) (fun q => ?_) <;> (unfold exh_; dsimp only)
  · rw [if_pos ⟨inb_iff.mpr q, hk⟩]
  · rw [if_neg (fun z => q (inb_iff.mp z.1))]
theorem V_alen {a : Nat} (hd : decode (cod_ m) pc = .ok (.arraylength, 1)) (hk : 16 ≤ kd_ a ∧ kd_ a ≤ 22 ∨ 34 ≤ kd_ a ∧ kd_ a ≤ 36) : V_ xs d m pc ls (.inr (.inr (.inl (some a))) :: st) h Q ↔ V_ xs d m (pc + 1) ls (.inl (Int32.ofNat (ln_ a)) :: st) h Q := by
  have e : ex_ xs m pc 1 .arraylength ls (.inr (.inr (.inl (some a))) :: st) h = some (pc + 1, ls, .inl (Int32.ofNat (ln_ a)) :: st, h) := by
    unfold ex_
    simp only [exc_, exl_, exa_, exs_, exj_, exk_, exh_]
    rw [if_pos hk]
  exact V_plain hd rfl rfl e
theorem V_newa {t : ArrayType} {n : Int32} {N k : Nat} (hd : decode (cod_ m) pc = .ok (.newarray t, 2)) (hk : arr_ t = k) (hk2 : k < 63) (hn : n.toInt = (N : Int)) (hN : N < 4096) : V_ xs d m pc ls (.inl n :: st) h Q ↔ V_ xs d m (pc + 2) ls (.inr (.inr (.inl (some (mk_ (nx_ h) k N)))) :: st) (nw_ h k N N) Q := by
  have hc : n.toNatClampNeg = N := by unfold Int32.toNatClampNeg; rw [hn]; rfl
  have e : ex_ xs m pc 2 (.newarray t) ls (.inl n :: st) h = some (pc + 2, ls, .inr (.inr (.inl (some (mk_ (nx_ h) k N)))) :: st, nw_ h k N N) := by
    unfold ex_
    simp only [exc_, exl_, exa_, exs_, exj_, exk_, exh_]
    rw [if_pos ⟨by omega, by rw [hc]; exact hN, by rw [hk]; exact hk2⟩, hc, hk]
  exact V_plain hd rfl rfl e
theorem V_anew {x c j : Nat} {n : Int32} {N k : Nat} (hd : decode (cod_ m) pc = .ok (.anewarray x, 3)) (hx : cls_ (kap_ m) x = some (c, j)) (hk : c = 0 ∧ k = 20 ∨ c = 4 ∧ k = 21 ∨ c = 32 ∧ k = 22) (hn : n.toInt = (N : Int)) (hN : N < 4096) : V_ xs d m pc ls (.inl n :: st) h Q ↔ V_ xs d m (pc + 3) ls (.inr (.inr (.inl (some (mk_ (nx_ h) k N)))) :: st) (nw_ h k N N) Q := by
  have hc : n.toNatClampNeg = N := by unfold Int32.toNatClampNeg; rw [hn]; rfl
  have hkk : (if c = 0 then 20 else if c = 4 then 21 else 22) = k := by rcases hk with ⟨rfl, rfl⟩ | ⟨rfl, rfl⟩ | ⟨rfl, rfl⟩ <;> rfl
  have hcc : c = 0 ∨ c = 4 ∨ c = 32 := by omega
  have e : ex_ xs m pc 3 (.anewarray x) ls (.inl n :: st) h = some (pc + 3, ls, .inr (.inr (.inl (some (mk_ (nx_ h) k N)))) :: st, nw_ h k N N) := by
    unfold ex_
    simp only [exc_, exl_, exa_, exs_, exj_, exk_, exh_, hx]
    rw [if_pos ⟨by omega, by rw [hc]; exact hN, hcc⟩, hc, hkk]
  exact V_plain hd rfl rfl e
theorem V_new {x c j N : Nat} (hd : decode (cod_ m) pc = .ok (.new x, 3)) (ht : thr_ m pc = false) (hx : cls_ (kap_ m) x = some (c, j)) (hk : c < 16) (hN : nfl_ c = N) : V_ xs d m pc ls st h Q ↔ V_ xs d m (pc + 3) ls (.inr (.inr (.inl (some (mk_ (nx_ h) c 0)))) :: st) (nw_ h c 0 N) Q := by
  have e : ex_ xs m pc 3 (.new x) ls st h = some (pc + 3, ls, .inr (.inr (.inl (some (mk_ (nx_ h) c 0)))) :: st, nw_ h c 0 N) := by
    unfold ex_
    simp only [exc_, exl_, exa_, exs_, exj_, exk_, exh_, hx]
    rw [if_pos hk, hN]
  exact V_ex hd rfl rfl ht e
theorem V_throw {x : Nat} (hd : decode (cod_ m) pc = .ok (.new x, 3)) (ht : thr_ m pc = true) : V_ xs d m pc ls [] h Q ↔ Q none (xh_ h) := by
  rw [V_one]
  unfold run_
  rw [hd]
  constructor
  · rintro ⟨n, o, hh, h1, h2⟩
    dsimp only at h1
    rw [if_pos (show lok_ (.new x) 3 = true from rfl), if_pos ht] at h1
    cases h1
    exact h2
  · intro h2
    exact ⟨0, _, _, by dsimp only; rw [if_pos (show lok_ (.new x) 3 = true from rfl), if_pos ht], h2⟩
theorem V_objinit {x a j z : Nat} (hd : decode (cod_ m) pc = .ok (.invokespecial x, 3)) (hm : mth_ (kap_ m) x = some (1000, j, z)) (h0 : 0 < d) (hk : kd_ a < 16) (hs : (st.map acat_).sum ≤ 8) : V_ xs d m pc ls (.inr (.inr (.inl (some a))) :: st) h Q ↔ V_ xs d m (pc + 3) ls st h Q := by
  have e : ∀ n, run_ xs (n + 1) d m pc ls (.inr (.inr (.inl (some a))) :: st) h = run_ xs n d m (pc + 3) ls st h := by
    intro n
    conv => lhs; unfold run_
    rw [hd]
    dsimp only
    rw [if_pos (show lok_ (.invokespecial x) 3 = true from rfl), hm]
    unfold cal_
    dsimp only
    rw [if_pos rfl, if_pos ⟨rfl, hk, hs, h0⟩]
  rw [V_one]
  simp only [e]
  exact Iff.rfl
theorem V_callS {x q j z : Nat} (as : List AV) (hd : decode (cod_ m) pc = .ok (.invokestatic x, 3)) (hm : mth_ (kap_ m) x = some (q, j, z)) (h3 : as.length = nar_ q) (hq : (decide (q < 200) && (cty_ 0 q && decide (rcv_ q = 99))) = true) : V_ xs d m pc ls (as.reverse ++ st) h Q ↔ (0 < d ∧ (st.map acat_).sum ≤ 8 ∧ V_ xs (d - 1) q 0 (ent_ as (mxl_ q)) [] h (K_ xs d m (pc + 3) ls st Q)) := by
  simp only [Bool.and_eq_true, decide_eq_true_iff] at hq
  obtain ⟨h1, h2, h4⟩ := hq
  have hl : (as.reverse).length = nar_ q := by rw [List.length_reverse]; exact h3
  rw [V_cal (q := q) (j := j) (z := z) (ct := 0) (fun n => by conv => lhs; unfold run_
                                                              rw [hd]; dsimp only; rw [if_pos (show lok_ (.invokestatic x) 3 = true from rfl), hm]) h1 h2 (by rw [List.length_append, hl]; omega)]
  rw [← hl, List.drop_left, List.take_left, List.reverse_reverse, h4]
  simp [rok_]
theorem rok_v {k a : Nat} {as : List AV} (h4 : k ≠ 99) : rok_ k ((as ++ [.inr (.inr (.inl (some a)))]) ++ st) (as ++ [.inr (.inr (.inl (some a)))] : List AV).length = true ↔ kd_ a = k := by
  unfold rok_
  rw [if_neg h4, List.take_left, List.getLast?_concat]
  simp
theorem V_callV {x q j z a : Nat} (as : List AV) (hd : decode (cod_ m) pc = .ok (.invokevirtual x, 3)) (hm : mth_ (kap_ m) x = some (q, j, z)) (h3 : as.length + 1 = nar_ q) (hq : (decide (q < 200) && (cty_ 1 q && decide (rcv_ q ≠ 99))) = true) : V_ xs d m pc ls (as.reverse ++ .inr (.inr (.inl (some a))) :: st) h Q ↔ (0 < d ∧ (st.map acat_).sum ≤ 8 ∧ kd_ a = rcv_ q ∧ V_ xs (d - 1) q 0 (ent_ (.inr (.inr (.inl (some a))) :: as) (mxl_ q)) [] h (K_ xs d m (pc + 3) ls st Q)) := by
  simp only [Bool.and_eq_true, decide_eq_true_iff] at hq
  obtain ⟨h1, h2, h4⟩ := hq
  have hl : (as.reverse ++ [.inr (.inr (.inl (some a)))] : List AV).length = nar_ q := by rw [List.length_append, List.length_reverse]; exact h3
  have hst : (as.reverse ++ .inr (.inr (.inl (some a))) :: st : List AV) = (as.reverse ++ [.inr (.inr (.inl (some a)))]) ++ st := by simp
  rw [hst, V_cal (q := q) (j := j) (z := z) (ct := 1) (fun n => by conv => lhs; unfold run_
                                                                   rw [hd]; dsimp only; rw [if_pos (show lok_ (.invokevirtual x) 3 = true from rfl), hm]) h1 h2 (by rw [List.length_append, hl]; omega)]
  rw [← hl, List.drop_left, rok_v h4, List.take_left, List.reverse_append, List.reverse_reverse]
  exact Iff.rfl
theorem V_callI {x q j z a : Nat} (as : List AV) (hd : decode (cod_ m) pc = .ok (.invokespecial x, 3)) (hm : mth_ (kap_ m) x = some (q, j, z)) (h3 : as.length + 1 = nar_ q) (hq : (decide (q < 200) && (cty_ 2 q && decide (rcv_ q ≠ 99))) = true) : V_ xs d m pc ls (as.reverse ++ .inr (.inr (.inl (some a))) :: st) h Q ↔ (0 < d ∧ (st.map acat_).sum ≤ 8 ∧ kd_ a = rcv_ q ∧ V_ xs (d - 1) q 0 (ent_ (.inr (.inr (.inl (some a))) :: as) (mxl_ q)) [] h (K_ xs d m (pc + 3) ls st Q)) := by
  simp only [Bool.and_eq_true, decide_eq_true_iff] at hq
  obtain ⟨h1, h2, h4⟩ := hq
  have hl : (as.reverse ++ [.inr (.inr (.inl (some a)))] : List AV).length = nar_ q := by rw [List.length_append, List.length_reverse]; exact h3
  have hst : (as.reverse ++ .inr (.inr (.inl (some a))) :: st : List AV) = (as.reverse ++ [.inr (.inr (.inl (some a)))]) ++ st := by simp
  rw [hst, V_cal (q := q) (j := j) (z := z) (ct := 2) (fun n => by conv => lhs; unfold run_
                                                                   rw [hd]; dsimp only; rw [if_pos (show lok_ (.invokespecial x) 3 = true from rfl), hm]) h1 h2 (by rw [List.length_append, hl]; omega)]
  rw [← hl, List.drop_left, rok_v h4, List.take_left, List.reverse_append, List.reverse_reverse]
  exact Iff.rfl
theorem K_v {v : AV} {h' : AH} : K_ xs d m pc ls st Q (some (some v)) h' ↔ V_ xs d m pc ls (v :: st) h' Q := Iff.rfl
theorem K_0 {h' : AH} : K_ xs d m pc ls st Q (some none) h' ↔ V_ xs d m pc ls st h' Q := Iff.rfl
theorem V_putI0 {x kk p j a : Nat} {y : Int32} (hd : decode (cod_ m) pc = .ok (.putfield x, 3)) (hf : fld_ (kap_ m) x = some (kk, p, 0, j)) (hk : kk < 16) (hfin : (fnl_ kk p = false ∨ ((nam_ m).name == "<init>") = true ∧ kap_ m = kk)) : V_ xs d m pc ls (.inl y :: .inr (.inr (.inl (some a))) :: st) h Q ↔ (kd_ a = kk ∧ V_ xs d m (pc + 3) ls st (uI_ h a (st_ (hI_ h a) p y)) Q) := by
  rw [V_putI hd hf ⟨by decide, by decide⟩ hk hfin]
  simp [nb_]
theorem nb_3 {y : Int32} : nb_ 3 y = true ↔ (y = 0 ∨ y = 1) := by simp [nb_]
theorem V_iret0 {x : Int32} (hd : decode (cod_ m) pc = .ok (.ireturn, 1)) (hr : rty_ m = some .int) : V_ xs d m pc ls [.inl x] h Q ↔ Q (some (some (.inl x))) h := by
  rw [V_iret hd, hr]
  simp [rb_]
theorem V_iretZ {x : Int32} (hd : decode (cod_ m) pc = .ok (.ireturn, 1)) (hr : rty_ m = some .boolean) : V_ xs d m pc ls [.inl x] h Q ↔ ((x = 0 ∨ x = 1) ∧ Q (some (some (.inl x))) h) := by
  rw [V_iret hd, hr]
  simp [rb_]
theorem V_idiv {x y : Int32} (hd : decode (cod_ m) pc = .ok (.idiv, 1)) (hy : ¬ y = 0) : V_ xs d m pc ls (.inl y :: .inl x :: st) h Q ↔ V_ xs d m (pc + 1) ls (.inl (x / y) :: st) h Q :=
  V_arith hd rfl rfl rfl rfl (by show (if y = 0 then none else some _) = _; rw [if_neg hy])
theorem V_irem {x y : Int32} (hd : decode (cod_ m) pc = .ok (.irem, 1)) (hy : ¬ y = 0) : V_ xs d m pc ls (.inl y :: .inl x :: st) h Q ↔ V_ xs d m (pc + 1) ls (.inl (x - x / y * y) :: st) h Q :=
  V_arith hd rfl rfl rfl rfl (by show (if y = 0 then none else some _) = _; rw [if_neg hy])
theorem V_ldiv {x y : Int64} (hd : decode (cod_ m) pc = .ok (.ldiv, 1)) (hy : ¬ y = 0) : V_ xs d m pc ls (.inr (.inl y) :: .inr (.inl x) :: st) h Q ↔ V_ xs d m (pc + 1) ls (.inr (.inl (x / y)) :: st) h Q :=
  V_arith hd rfl rfl rfl rfl (by show (if y = 0 then none else some _) = _; rw [if_neg hy])
end VINS
end
section
/-! the rows of the heap behind a write -/
section WHP
variable {h : AH} {a b k n s j : Nat}
theorem hI_uI {f : Nat → Int32} : hI_ (uI_ h a f) b = if b = a then f else hI_ h b := rfl
theorem hL_uI {f : Nat → Int32} : hL_ (uI_ h a f) b = hL_ h b := rfl
theorem hR_uI {f : Nat → Int32} : hR_ (uI_ h a f) b = hR_ h b := rfl
theorem nx_uI {f : Nat → Int32} : nx_ (uI_ h a f) = nx_ h := rfl
theorem sl_uI {f : Nat → Int32} : sl_ (uI_ h a f) = sl_ h := rfl
theorem ids_uI {f : Nat → Int32} : ids_ (uI_ h a f) = ids_ h := rfl
theorem hI_uL {f : Nat → Int64} : hI_ (uL_ h a f) b = hI_ h b := rfl
theorem hL_uL {f : Nat → Int64} : hL_ (uL_ h a f) b = if b = a then f else hL_ h b := rfl
theorem hR_uL {f : Nat → Int64} : hR_ (uL_ h a f) b = hR_ h b := rfl
theorem nx_uL {f : Nat → Int64} : nx_ (uL_ h a f) = nx_ h := rfl
theorem sl_uL {f : Nat → Int64} : sl_ (uL_ h a f) = sl_ h := rfl
theorem ids_uL {f : Nat → Int64} : ids_ (uL_ h a f) = ids_ h := rfl
theorem hI_uR {f : Nat → Option Nat} : hI_ (uR_ h a f) b = hI_ h b := rfl
theorem hL_uR {f : Nat → Option Nat} : hL_ (uR_ h a f) b = hL_ h b := rfl
theorem hR_uR {f : Nat → Option Nat} : hR_ (uR_ h a f) b = if b = a then f else hR_ h b := rfl
theorem nx_uR {f : Nat → Option Nat} : nx_ (uR_ h a f) = nx_ h := rfl
theorem sl_uR {f : Nat → Option Nat} : sl_ (uR_ h a f) = sl_ h := rfl
theorem ids_uR {f : Nat → Option Nat} : ids_ (uR_ h a f) = ids_ h := rfl
theorem hI_nw : hI_ (nw_ h k n s) b = if b = mk_ (nx_ h) k n then fun _ => 0 else hI_ h b := rfl
theorem hL_nw : hL_ (nw_ h k n s) b = if b = mk_ (nx_ h) k n then fun _ => 0 else hL_ h b := rfl
theorem hR_nw : hR_ (nw_ h k n s) b = if b = mk_ (nx_ h) k n then fun _ => none else hR_ h b := rfl
theorem nx_nw : nx_ (nw_ h k n s) = nx_ h + 1 := rfl
theorem sl_nw : sl_ (nw_ h k n s) = sl_ h + s := rfl
theorem ids_nw : ids_ (nw_ h k n s) = ids_ h ++ [mk_ (nx_ h) k n] := rfl
theorem hI_xh : hI_ (xh_ h) = hI_ h := rfl
theorem hL_xh : hL_ (xh_ h) = hL_ h := rfl
theorem hR_xh : hR_ (xh_ h) = hR_ h := rfl
theorem nx_xh : nx_ (xh_ h) = nx_ h + 1 := rfl
theorem sl_xh : sl_ (xh_ h) = sl_ h + 6 := rfl
theorem st_eq {α : Type} {f : Nat → α} {v : α} : st_ f k v j = if j = k then v else f j := rfl
theorem kd_mk (hk : k < 64) : kd_ (mk_ s k n) = k := by unfold kd_ mk_; omega
theorem ln_mk (hk : k < 64) (hn : n < 4096) : ln_ (mk_ s k n) = n := by unfold ln_ mk_; omega
theorem sr_mk (hk : k < 64) (hn : n < 4096) : sr_ (mk_ s k n) = s := by unfold sr_ mk_; omega
end WHP
end
section
/-! the tables against the words -/
def clnm_ (k : Nat) : String := cln_.getD k ""
def gtb_ : List Cond := lw_tbl.filter goodWord
theorem wd_ {j : Nat} {w : Cond} (h : lw_tbl[j]? = some w) (hg : goodWord w = true) : w ∈ gtb_ := List.mem_filter.mpr ⟨List.mem_of_getElem? h, hg⟩
/-- the types of the fields: 0 int, 1 long, 2 a reference, 3 boolean, 4 byte -/
def ftb_ : List (List Nat) := [[0, 0, 0, 3, 3, 2], [0, 2, 2, 2, 2, 0], [2, 2, 2, 0], [0, 2, 2, 2, 2], [0, 0, 0, 0, 0, 0, 2, 2, 0, 2], [2, 2, 2, 0, 0, 0, 2], [2, 2, 2, 2, 0], [2, 0, 2, 0, 2, 0, 1, 2, 2, 2, 0, 2, 2, 2], [0, 0, 2, 2, 2, 2, 2, 2, 0, 2, 2, 2, 2, 2, 2, 2, 2, 2, 2, 0, 2, 2, 0, 2, 2, 2, 0, 0, 0, 2, 2, 0, 0, 0, 0, 2, 2, 2, 2, 0, 2, 0, 2, 2, 2, 2, 2, 2, 2, 0, 0, 0, 0, 0, 0, 0, 3, 0, 1, 0, 0]]
def ft_ (k p : Nat) : Nat := (ftb_.getD k []).getD p 0
def T_ (k : Nat) : u_T := (vwCl.getD k (RX0, TX0, 6)).2.1
def fT_ (t : Nat) (d : String) : Bool := match t, parseFieldDescriptor d with
  | 0, some .int => true
  | 1, some .long => true
  | 2, some (.object _) => true
  | 2, some (.array _) => true
  | 3, some .boolean => true
  | 4, some .byte => true
  | _, _ => false
def jc_ (i : Nat) : Nat := (mt_ i).2.2.2.2.2.2.2.2.1
def jk_ (i : Nat) : Nat := (mt_ i).2.2.2.2.2.2.2.2.2.1
def js_ (i : Nat) : Nat := (mt_ i).2.2.2.2.2.2.2.2.2.2.1
def ji_ (i : Nat) : Nat := (mt_ i).2.2.2.2.2.2.2.2.2.2.2
def sp_ (q : Nat) : Bool := q == 176 || q == 177 || q == 178
def hh_ : List (Nat × Nat × Nat × Nat) := [(0, 12, 15, 13)]
def ckA_ (q : Nat) : Bool := decide (lw_tbl[jc_ q]? = some (.code (nam_ q) (cod_ q) (mxl_ q) (rty_ q)))
def ckB_ (q : Nat) : Bool := decide (lw_tbl[jk_ q]? = some (if rcv_ q = 99 then .static (nam_ q) else .instanceMethod (nam_ q))) && decide (lw_tbl[ji_ q]? = some (.initialized (nam_ q).cls))
def ckC_ (q : Nat) : Bool := decide (rcv_ q = 99) || ((nam_ q).name == "<init>") || decide (lw_tbl[js_ q]? = some (.selects (nam_ q).cls (nam_ q) (nam_ q)))
def ckD_ (q : Nat) : Bool := decide ((nam_ q).cls = clnm_ (kap_ q)) && ((decide (kap_ q = 12) || plainName (nam_ q).cls) && (decide ((nam_ q).cls ≠ "java/lang/invoke/MethodHandle") && (decide ((nam_ q).cls ≠ "java/lang/invoke/VarHandle") && decide ((parseMethodDescriptor (nam_ q).desc).map (fun d => d.parameters.length) = some (if rcv_ q = 99 then nar_ q else nar_ q - 1)))))
def ckE_ (q : Nat) : Bool := decide (mxl_ q ≤ 20) && (decide (nar_ q ≤ 9) && (decide (rcv_ q = 99 ∨ rcv_ q < 9 ∧ rcv_ q = kap_ q ∨ rcv_ q = 32 ∧ kap_ q = 9 ∨ rcv_ q = 33 ∧ kap_ q = 13) && decide (kap_ q < 18)))
def ckF_ (q : Nat) : Bool := ((nam_ q).name != "<init>") || decide (rty_ q = none)
theorem okA_0 : lw_tbl[jc_ 0]? = some (.code (nam_ 0) (cod_ 0) (mxl_ 0) (rty_ 0)) := by decide +kernel
theorem okA_1 : lw_tbl[jc_ 1]? = some (.code (nam_ 1) (cod_ 1) (mxl_ 1) (rty_ 1)) := by decide +kernel
theorem okA_2 : lw_tbl[jc_ 2]? = some (.code (nam_ 2) (cod_ 2) (mxl_ 2) (rty_ 2)) := by decide +kernel
theorem okA_3 : lw_tbl[jc_ 3]? = some (.code (nam_ 3) (cod_ 3) (mxl_ 3) (rty_ 3)) := by decide +kernel
theorem okA_4 : lw_tbl[jc_ 4]? = some (.code (nam_ 4) (cod_ 4) (mxl_ 4) (rty_ 4)) := by decide +kernel
theorem okA_5 : lw_tbl[jc_ 5]? = some (.code (nam_ 5) (cod_ 5) (mxl_ 5) (rty_ 5)) := by decide +kernel
theorem okA_6 : lw_tbl[jc_ 6]? = some (.code (nam_ 6) (cod_ 6) (mxl_ 6) (rty_ 6)) := by decide +kernel
theorem okA_7 : lw_tbl[jc_ 7]? = some (.code (nam_ 7) (cod_ 7) (mxl_ 7) (rty_ 7)) := by decide +kernel
theorem okA_8 : lw_tbl[jc_ 8]? = some (.code (nam_ 8) (cod_ 8) (mxl_ 8) (rty_ 8)) := by decide +kernel
theorem okA_9 : lw_tbl[jc_ 9]? = some (.code (nam_ 9) (cod_ 9) (mxl_ 9) (rty_ 9)) := by decide +kernel
theorem okA_10 : lw_tbl[jc_ 10]? = some (.code (nam_ 10) (cod_ 10) (mxl_ 10) (rty_ 10)) := by decide +kernel
theorem okA_11 : lw_tbl[jc_ 11]? = some (.code (nam_ 11) (cod_ 11) (mxl_ 11) (rty_ 11)) := by decide +kernel
theorem okA_12 : lw_tbl[jc_ 12]? = some (.code (nam_ 12) (cod_ 12) (mxl_ 12) (rty_ 12)) := by decide +kernel
theorem okA_13 : lw_tbl[jc_ 13]? = some (.code (nam_ 13) (cod_ 13) (mxl_ 13) (rty_ 13)) := by decide +kernel
theorem okA_14 : lw_tbl[jc_ 14]? = some (.code (nam_ 14) (cod_ 14) (mxl_ 14) (rty_ 14)) := by decide +kernel
theorem okA_15 : lw_tbl[jc_ 15]? = some (.code (nam_ 15) (cod_ 15) (mxl_ 15) (rty_ 15)) := by decide +kernel
theorem okA_16 : lw_tbl[jc_ 16]? = some (.code (nam_ 16) (cod_ 16) (mxl_ 16) (rty_ 16)) := by decide +kernel
theorem okA_17 : lw_tbl[jc_ 17]? = some (.code (nam_ 17) (cod_ 17) (mxl_ 17) (rty_ 17)) := by decide +kernel
theorem okA_18 : lw_tbl[jc_ 18]? = some (.code (nam_ 18) (cod_ 18) (mxl_ 18) (rty_ 18)) := by decide +kernel
theorem okA_19 : lw_tbl[jc_ 19]? = some (.code (nam_ 19) (cod_ 19) (mxl_ 19) (rty_ 19)) := by decide +kernel
theorem okA_20 : lw_tbl[jc_ 20]? = some (.code (nam_ 20) (cod_ 20) (mxl_ 20) (rty_ 20)) := by decide +kernel
theorem okA_21 : lw_tbl[jc_ 21]? = some (.code (nam_ 21) (cod_ 21) (mxl_ 21) (rty_ 21)) := by decide +kernel
theorem okA_22 : lw_tbl[jc_ 22]? = some (.code (nam_ 22) (cod_ 22) (mxl_ 22) (rty_ 22)) := by decide +kernel
theorem okA_23 : lw_tbl[jc_ 23]? = some (.code (nam_ 23) (cod_ 23) (mxl_ 23) (rty_ 23)) := by decide +kernel
theorem okA_24 : lw_tbl[jc_ 24]? = some (.code (nam_ 24) (cod_ 24) (mxl_ 24) (rty_ 24)) := by decide +kernel
theorem okA_25 : lw_tbl[jc_ 25]? = some (.code (nam_ 25) (cod_ 25) (mxl_ 25) (rty_ 25)) := by decide +kernel
theorem okA_26 : lw_tbl[jc_ 26]? = some (.code (nam_ 26) (cod_ 26) (mxl_ 26) (rty_ 26)) := by decide +kernel
theorem okA_27 : lw_tbl[jc_ 27]? = some (.code (nam_ 27) (cod_ 27) (mxl_ 27) (rty_ 27)) := by decide +kernel
theorem okA_28 : lw_tbl[jc_ 28]? = some (.code (nam_ 28) (cod_ 28) (mxl_ 28) (rty_ 28)) := by decide +kernel
theorem okA_29 : lw_tbl[jc_ 29]? = some (.code (nam_ 29) (cod_ 29) (mxl_ 29) (rty_ 29)) := by decide +kernel
theorem okA_30 : lw_tbl[jc_ 30]? = some (.code (nam_ 30) (cod_ 30) (mxl_ 30) (rty_ 30)) := by decide +kernel
theorem okA_31 : lw_tbl[jc_ 31]? = some (.code (nam_ 31) (cod_ 31) (mxl_ 31) (rty_ 31)) := by decide +kernel
theorem okA_32 : lw_tbl[jc_ 32]? = some (.code (nam_ 32) (cod_ 32) (mxl_ 32) (rty_ 32)) := by decide +kernel
theorem okA_33 : lw_tbl[jc_ 33]? = some (.code (nam_ 33) (cod_ 33) (mxl_ 33) (rty_ 33)) := by decide +kernel
theorem okA_34 : lw_tbl[jc_ 34]? = some (.code (nam_ 34) (cod_ 34) (mxl_ 34) (rty_ 34)) := by decide +kernel
theorem okA_35 : lw_tbl[jc_ 35]? = some (.code (nam_ 35) (cod_ 35) (mxl_ 35) (rty_ 35)) := by decide +kernel
theorem okA_36 : lw_tbl[jc_ 36]? = some (.code (nam_ 36) (cod_ 36) (mxl_ 36) (rty_ 36)) := by decide +kernel
theorem okA_37 : lw_tbl[jc_ 37]? = some (.code (nam_ 37) (cod_ 37) (mxl_ 37) (rty_ 37)) := by decide +kernel
theorem okA_38 : lw_tbl[jc_ 38]? = some (.code (nam_ 38) (cod_ 38) (mxl_ 38) (rty_ 38)) := by decide +kernel
theorem okA_39 : lw_tbl[jc_ 39]? = some (.code (nam_ 39) (cod_ 39) (mxl_ 39) (rty_ 39)) := by decide +kernel
theorem okA_40 : lw_tbl[jc_ 40]? = some (.code (nam_ 40) (cod_ 40) (mxl_ 40) (rty_ 40)) := by decide +kernel
theorem okA_41 : lw_tbl[jc_ 41]? = some (.code (nam_ 41) (cod_ 41) (mxl_ 41) (rty_ 41)) := by decide +kernel
theorem okA_42 : lw_tbl[jc_ 42]? = some (.code (nam_ 42) (cod_ 42) (mxl_ 42) (rty_ 42)) := by decide +kernel
theorem okA_43 : lw_tbl[jc_ 43]? = some (.code (nam_ 43) (cod_ 43) (mxl_ 43) (rty_ 43)) := by decide +kernel
theorem okA_44 : lw_tbl[jc_ 44]? = some (.code (nam_ 44) (cod_ 44) (mxl_ 44) (rty_ 44)) := by decide +kernel
theorem okA_45 : lw_tbl[jc_ 45]? = some (.code (nam_ 45) (cod_ 45) (mxl_ 45) (rty_ 45)) := by decide +kernel
theorem okA_46 : lw_tbl[jc_ 46]? = some (.code (nam_ 46) (cod_ 46) (mxl_ 46) (rty_ 46)) := by decide +kernel
theorem okA_47 : lw_tbl[jc_ 47]? = some (.code (nam_ 47) (cod_ 47) (mxl_ 47) (rty_ 47)) := by decide +kernel
theorem okA_48 : lw_tbl[jc_ 48]? = some (.code (nam_ 48) (cod_ 48) (mxl_ 48) (rty_ 48)) := by decide +kernel
theorem okA_49 : lw_tbl[jc_ 49]? = some (.code (nam_ 49) (cod_ 49) (mxl_ 49) (rty_ 49)) := by decide +kernel
theorem okA_50 : lw_tbl[jc_ 50]? = some (.code (nam_ 50) (cod_ 50) (mxl_ 50) (rty_ 50)) := by decide +kernel
theorem okA_51 : lw_tbl[jc_ 51]? = some (.code (nam_ 51) (cod_ 51) (mxl_ 51) (rty_ 51)) := by decide +kernel
theorem okA_52 : lw_tbl[jc_ 52]? = some (.code (nam_ 52) (cod_ 52) (mxl_ 52) (rty_ 52)) := by decide +kernel
theorem okA_53 : lw_tbl[jc_ 53]? = some (.code (nam_ 53) (cod_ 53) (mxl_ 53) (rty_ 53)) := by decide +kernel
theorem okA_54 : lw_tbl[jc_ 54]? = some (.code (nam_ 54) (cod_ 54) (mxl_ 54) (rty_ 54)) := by decide +kernel
theorem okA_55 : lw_tbl[jc_ 55]? = some (.code (nam_ 55) (cod_ 55) (mxl_ 55) (rty_ 55)) := by decide +kernel
theorem okA_56 : lw_tbl[jc_ 56]? = some (.code (nam_ 56) (cod_ 56) (mxl_ 56) (rty_ 56)) := by decide +kernel
theorem okA_57 : lw_tbl[jc_ 57]? = some (.code (nam_ 57) (cod_ 57) (mxl_ 57) (rty_ 57)) := by decide +kernel
theorem okA_58 : lw_tbl[jc_ 58]? = some (.code (nam_ 58) (cod_ 58) (mxl_ 58) (rty_ 58)) := by decide +kernel
theorem okA_59 : lw_tbl[jc_ 59]? = some (.code (nam_ 59) (cod_ 59) (mxl_ 59) (rty_ 59)) := by decide +kernel
theorem okA_60 : lw_tbl[jc_ 60]? = some (.code (nam_ 60) (cod_ 60) (mxl_ 60) (rty_ 60)) := by decide +kernel
theorem okA_61 : lw_tbl[jc_ 61]? = some (.code (nam_ 61) (cod_ 61) (mxl_ 61) (rty_ 61)) := by decide +kernel
theorem okA_62 : lw_tbl[jc_ 62]? = some (.code (nam_ 62) (cod_ 62) (mxl_ 62) (rty_ 62)) := by decide +kernel
theorem okA_63 : lw_tbl[jc_ 63]? = some (.code (nam_ 63) (cod_ 63) (mxl_ 63) (rty_ 63)) := by decide +kernel
theorem okA_64 : lw_tbl[jc_ 64]? = some (.code (nam_ 64) (cod_ 64) (mxl_ 64) (rty_ 64)) := by decide +kernel
theorem okA_65 : lw_tbl[jc_ 65]? = some (.code (nam_ 65) (cod_ 65) (mxl_ 65) (rty_ 65)) := by decide +kernel
theorem okA_66 : lw_tbl[jc_ 66]? = some (.code (nam_ 66) (cod_ 66) (mxl_ 66) (rty_ 66)) := by decide +kernel
theorem okA_67 : lw_tbl[jc_ 67]? = some (.code (nam_ 67) (cod_ 67) (mxl_ 67) (rty_ 67)) := by decide +kernel
theorem okA_68 : lw_tbl[jc_ 68]? = some (.code (nam_ 68) (cod_ 68) (mxl_ 68) (rty_ 68)) := by decide +kernel
theorem okA_69 : lw_tbl[jc_ 69]? = some (.code (nam_ 69) (cod_ 69) (mxl_ 69) (rty_ 69)) := by decide +kernel
theorem okA_70 : lw_tbl[jc_ 70]? = some (.code (nam_ 70) (cod_ 70) (mxl_ 70) (rty_ 70)) := by decide +kernel
theorem okA_71 : lw_tbl[jc_ 71]? = some (.code (nam_ 71) (cod_ 71) (mxl_ 71) (rty_ 71)) := by decide +kernel
theorem okA_72 : lw_tbl[jc_ 72]? = some (.code (nam_ 72) (cod_ 72) (mxl_ 72) (rty_ 72)) := by decide +kernel
theorem okA_73 : lw_tbl[jc_ 73]? = some (.code (nam_ 73) (cod_ 73) (mxl_ 73) (rty_ 73)) := by decide +kernel
theorem okA_74 : lw_tbl[jc_ 74]? = some (.code (nam_ 74) (cod_ 74) (mxl_ 74) (rty_ 74)) := by decide +kernel
theorem okA_75 : lw_tbl[jc_ 75]? = some (.code (nam_ 75) (cod_ 75) (mxl_ 75) (rty_ 75)) := by decide +kernel
theorem okA_76 : lw_tbl[jc_ 76]? = some (.code (nam_ 76) (cod_ 76) (mxl_ 76) (rty_ 76)) := by decide +kernel
theorem okA_77 : lw_tbl[jc_ 77]? = some (.code (nam_ 77) (cod_ 77) (mxl_ 77) (rty_ 77)) := by decide +kernel
theorem okA_78 : lw_tbl[jc_ 78]? = some (.code (nam_ 78) (cod_ 78) (mxl_ 78) (rty_ 78)) := by decide +kernel
theorem okA_79 : lw_tbl[jc_ 79]? = some (.code (nam_ 79) (cod_ 79) (mxl_ 79) (rty_ 79)) := by decide +kernel
theorem okA_80 : lw_tbl[jc_ 80]? = some (.code (nam_ 80) (cod_ 80) (mxl_ 80) (rty_ 80)) := by decide +kernel
theorem okA_81 : lw_tbl[jc_ 81]? = some (.code (nam_ 81) (cod_ 81) (mxl_ 81) (rty_ 81)) := by decide +kernel
theorem okA_82 : lw_tbl[jc_ 82]? = some (.code (nam_ 82) (cod_ 82) (mxl_ 82) (rty_ 82)) := by decide +kernel
theorem okA_83 : lw_tbl[jc_ 83]? = some (.code (nam_ 83) (cod_ 83) (mxl_ 83) (rty_ 83)) := by decide +kernel
theorem okA_84 : lw_tbl[jc_ 84]? = some (.code (nam_ 84) (cod_ 84) (mxl_ 84) (rty_ 84)) := by decide +kernel
theorem okA_85 : lw_tbl[jc_ 85]? = some (.code (nam_ 85) (cod_ 85) (mxl_ 85) (rty_ 85)) := by decide +kernel
theorem okA_86 : lw_tbl[jc_ 86]? = some (.code (nam_ 86) (cod_ 86) (mxl_ 86) (rty_ 86)) := by decide +kernel
theorem okA_87 : lw_tbl[jc_ 87]? = some (.code (nam_ 87) (cod_ 87) (mxl_ 87) (rty_ 87)) := by decide +kernel
theorem okA_88 : lw_tbl[jc_ 88]? = some (.code (nam_ 88) (cod_ 88) (mxl_ 88) (rty_ 88)) := by decide +kernel
theorem okA_89 : lw_tbl[jc_ 89]? = some (.code (nam_ 89) (cod_ 89) (mxl_ 89) (rty_ 89)) := by decide +kernel
theorem okA_90 : lw_tbl[jc_ 90]? = some (.code (nam_ 90) (cod_ 90) (mxl_ 90) (rty_ 90)) := by decide +kernel
theorem okA_91 : lw_tbl[jc_ 91]? = some (.code (nam_ 91) (cod_ 91) (mxl_ 91) (rty_ 91)) := by decide +kernel
theorem okA_92 : lw_tbl[jc_ 92]? = some (.code (nam_ 92) (cod_ 92) (mxl_ 92) (rty_ 92)) := by decide +kernel
theorem okA_93 : lw_tbl[jc_ 93]? = some (.code (nam_ 93) (cod_ 93) (mxl_ 93) (rty_ 93)) := by decide +kernel
theorem okA_94 : lw_tbl[jc_ 94]? = some (.code (nam_ 94) (cod_ 94) (mxl_ 94) (rty_ 94)) := by decide +kernel
theorem okA_95 : lw_tbl[jc_ 95]? = some (.code (nam_ 95) (cod_ 95) (mxl_ 95) (rty_ 95)) := by decide +kernel
theorem okA_96 : lw_tbl[jc_ 96]? = some (.code (nam_ 96) (cod_ 96) (mxl_ 96) (rty_ 96)) := by decide +kernel
theorem okA_97 : lw_tbl[jc_ 97]? = some (.code (nam_ 97) (cod_ 97) (mxl_ 97) (rty_ 97)) := by decide +kernel
theorem okA_98 : lw_tbl[jc_ 98]? = some (.code (nam_ 98) (cod_ 98) (mxl_ 98) (rty_ 98)) := by decide +kernel
theorem okA_99 : lw_tbl[jc_ 99]? = some (.code (nam_ 99) (cod_ 99) (mxl_ 99) (rty_ 99)) := by decide +kernel
theorem okA_100 : lw_tbl[jc_ 100]? = some (.code (nam_ 100) (cod_ 100) (mxl_ 100) (rty_ 100)) := by decide +kernel
theorem okA_101 : lw_tbl[jc_ 101]? = some (.code (nam_ 101) (cod_ 101) (mxl_ 101) (rty_ 101)) := by decide +kernel
theorem okA_102 : lw_tbl[jc_ 102]? = some (.code (nam_ 102) (cod_ 102) (mxl_ 102) (rty_ 102)) := by decide +kernel
theorem okA_103 : lw_tbl[jc_ 103]? = some (.code (nam_ 103) (cod_ 103) (mxl_ 103) (rty_ 103)) := by decide +kernel
theorem okA_104 : lw_tbl[jc_ 104]? = some (.code (nam_ 104) (cod_ 104) (mxl_ 104) (rty_ 104)) := by decide +kernel
theorem okA_105 : lw_tbl[jc_ 105]? = some (.code (nam_ 105) (cod_ 105) (mxl_ 105) (rty_ 105)) := by decide +kernel
theorem okA_106 : lw_tbl[jc_ 106]? = some (.code (nam_ 106) (cod_ 106) (mxl_ 106) (rty_ 106)) := by decide +kernel
theorem okA_107 : lw_tbl[jc_ 107]? = some (.code (nam_ 107) (cod_ 107) (mxl_ 107) (rty_ 107)) := by decide +kernel
theorem okA_108 : lw_tbl[jc_ 108]? = some (.code (nam_ 108) (cod_ 108) (mxl_ 108) (rty_ 108)) := by decide +kernel
theorem okA_109 : lw_tbl[jc_ 109]? = some (.code (nam_ 109) (cod_ 109) (mxl_ 109) (rty_ 109)) := by decide +kernel
theorem okA_110 : lw_tbl[jc_ 110]? = some (.code (nam_ 110) (cod_ 110) (mxl_ 110) (rty_ 110)) := by decide +kernel
theorem okA_111 : lw_tbl[jc_ 111]? = some (.code (nam_ 111) (cod_ 111) (mxl_ 111) (rty_ 111)) := by decide +kernel
theorem okA_112 : lw_tbl[jc_ 112]? = some (.code (nam_ 112) (cod_ 112) (mxl_ 112) (rty_ 112)) := by decide +kernel
theorem okA_113 : lw_tbl[jc_ 113]? = some (.code (nam_ 113) (cod_ 113) (mxl_ 113) (rty_ 113)) := by decide +kernel
theorem okA_114 : lw_tbl[jc_ 114]? = some (.code (nam_ 114) (cod_ 114) (mxl_ 114) (rty_ 114)) := by decide +kernel
theorem okA_115 : lw_tbl[jc_ 115]? = some (.code (nam_ 115) (cod_ 115) (mxl_ 115) (rty_ 115)) := by decide +kernel
theorem okA_116 : lw_tbl[jc_ 116]? = some (.code (nam_ 116) (cod_ 116) (mxl_ 116) (rty_ 116)) := by decide +kernel
theorem okA_117 : lw_tbl[jc_ 117]? = some (.code (nam_ 117) (cod_ 117) (mxl_ 117) (rty_ 117)) := by decide +kernel
theorem okA_118 : lw_tbl[jc_ 118]? = some (.code (nam_ 118) (cod_ 118) (mxl_ 118) (rty_ 118)) := by decide +kernel
theorem okA_119 : lw_tbl[jc_ 119]? = some (.code (nam_ 119) (cod_ 119) (mxl_ 119) (rty_ 119)) := by decide +kernel
theorem okA_120 : lw_tbl[jc_ 120]? = some (.code (nam_ 120) (cod_ 120) (mxl_ 120) (rty_ 120)) := by decide +kernel
theorem okA_121 : lw_tbl[jc_ 121]? = some (.code (nam_ 121) (cod_ 121) (mxl_ 121) (rty_ 121)) := by decide +kernel
theorem okA_122 : lw_tbl[jc_ 122]? = some (.code (nam_ 122) (cod_ 122) (mxl_ 122) (rty_ 122)) := by decide +kernel
theorem okA_123 : lw_tbl[jc_ 123]? = some (.code (nam_ 123) (cod_ 123) (mxl_ 123) (rty_ 123)) := by decide +kernel
theorem okA_124 : lw_tbl[jc_ 124]? = some (.code (nam_ 124) (cod_ 124) (mxl_ 124) (rty_ 124)) := by decide +kernel
theorem okA_125 : lw_tbl[jc_ 125]? = some (.code (nam_ 125) (cod_ 125) (mxl_ 125) (rty_ 125)) := by decide +kernel
theorem okA_126 : lw_tbl[jc_ 126]? = some (.code (nam_ 126) (cod_ 126) (mxl_ 126) (rty_ 126)) := by decide +kernel
theorem okA_127 : lw_tbl[jc_ 127]? = some (.code (nam_ 127) (cod_ 127) (mxl_ 127) (rty_ 127)) := by decide +kernel
theorem okA_128 : lw_tbl[jc_ 128]? = some (.code (nam_ 128) (cod_ 128) (mxl_ 128) (rty_ 128)) := by decide +kernel
theorem okA_129 : lw_tbl[jc_ 129]? = some (.code (nam_ 129) (cod_ 129) (mxl_ 129) (rty_ 129)) := by decide +kernel
theorem okA_130 : lw_tbl[jc_ 130]? = some (.code (nam_ 130) (cod_ 130) (mxl_ 130) (rty_ 130)) := by decide +kernel
theorem okA_131 : lw_tbl[jc_ 131]? = some (.code (nam_ 131) (cod_ 131) (mxl_ 131) (rty_ 131)) := by decide +kernel
theorem okA_132 : lw_tbl[jc_ 132]? = some (.code (nam_ 132) (cod_ 132) (mxl_ 132) (rty_ 132)) := by decide +kernel
theorem okA_133 : lw_tbl[jc_ 133]? = some (.code (nam_ 133) (cod_ 133) (mxl_ 133) (rty_ 133)) := by decide +kernel
theorem okA_134 : lw_tbl[jc_ 134]? = some (.code (nam_ 134) (cod_ 134) (mxl_ 134) (rty_ 134)) := by decide +kernel
theorem okA_135 : lw_tbl[jc_ 135]? = some (.code (nam_ 135) (cod_ 135) (mxl_ 135) (rty_ 135)) := by decide +kernel
theorem okA_136 : lw_tbl[jc_ 136]? = some (.code (nam_ 136) (cod_ 136) (mxl_ 136) (rty_ 136)) := by decide +kernel
theorem okA_137 : lw_tbl[jc_ 137]? = some (.code (nam_ 137) (cod_ 137) (mxl_ 137) (rty_ 137)) := by decide +kernel
theorem okA_138 : lw_tbl[jc_ 138]? = some (.code (nam_ 138) (cod_ 138) (mxl_ 138) (rty_ 138)) := by decide +kernel
theorem okA_139 : lw_tbl[jc_ 139]? = some (.code (nam_ 139) (cod_ 139) (mxl_ 139) (rty_ 139)) := by decide +kernel
theorem okA_140 : lw_tbl[jc_ 140]? = some (.code (nam_ 140) (cod_ 140) (mxl_ 140) (rty_ 140)) := by decide +kernel
theorem okA_141 : lw_tbl[jc_ 141]? = some (.code (nam_ 141) (cod_ 141) (mxl_ 141) (rty_ 141)) := by decide +kernel
theorem okA_142 : lw_tbl[jc_ 142]? = some (.code (nam_ 142) (cod_ 142) (mxl_ 142) (rty_ 142)) := by decide +kernel
theorem okA_143 : lw_tbl[jc_ 143]? = some (.code (nam_ 143) (cod_ 143) (mxl_ 143) (rty_ 143)) := by decide +kernel
theorem okA_144 : lw_tbl[jc_ 144]? = some (.code (nam_ 144) (cod_ 144) (mxl_ 144) (rty_ 144)) := by decide +kernel
theorem okA_145 : lw_tbl[jc_ 145]? = some (.code (nam_ 145) (cod_ 145) (mxl_ 145) (rty_ 145)) := by decide +kernel
theorem okA_146 : lw_tbl[jc_ 146]? = some (.code (nam_ 146) (cod_ 146) (mxl_ 146) (rty_ 146)) := by decide +kernel
theorem okA_147 : lw_tbl[jc_ 147]? = some (.code (nam_ 147) (cod_ 147) (mxl_ 147) (rty_ 147)) := by decide +kernel
theorem okA_148 : lw_tbl[jc_ 148]? = some (.code (nam_ 148) (cod_ 148) (mxl_ 148) (rty_ 148)) := by decide +kernel
theorem okA_149 : lw_tbl[jc_ 149]? = some (.code (nam_ 149) (cod_ 149) (mxl_ 149) (rty_ 149)) := by decide +kernel
theorem okA_150 : lw_tbl[jc_ 150]? = some (.code (nam_ 150) (cod_ 150) (mxl_ 150) (rty_ 150)) := by decide +kernel
theorem okA_151 : lw_tbl[jc_ 151]? = some (.code (nam_ 151) (cod_ 151) (mxl_ 151) (rty_ 151)) := by decide +kernel
theorem okA_152 : lw_tbl[jc_ 152]? = some (.code (nam_ 152) (cod_ 152) (mxl_ 152) (rty_ 152)) := by decide +kernel
theorem okA_153 : lw_tbl[jc_ 153]? = some (.code (nam_ 153) (cod_ 153) (mxl_ 153) (rty_ 153)) := by decide +kernel
theorem okA_154 : lw_tbl[jc_ 154]? = some (.code (nam_ 154) (cod_ 154) (mxl_ 154) (rty_ 154)) := by decide +kernel
theorem okA_155 : lw_tbl[jc_ 155]? = some (.code (nam_ 155) (cod_ 155) (mxl_ 155) (rty_ 155)) := by decide +kernel
theorem okA_156 : lw_tbl[jc_ 156]? = some (.code (nam_ 156) (cod_ 156) (mxl_ 156) (rty_ 156)) := by decide +kernel
theorem okA_157 : lw_tbl[jc_ 157]? = some (.code (nam_ 157) (cod_ 157) (mxl_ 157) (rty_ 157)) := by decide +kernel
theorem okA_158 : lw_tbl[jc_ 158]? = some (.code (nam_ 158) (cod_ 158) (mxl_ 158) (rty_ 158)) := by decide +kernel
theorem okA_159 : lw_tbl[jc_ 159]? = some (.code (nam_ 159) (cod_ 159) (mxl_ 159) (rty_ 159)) := by decide +kernel
theorem okA_160 : lw_tbl[jc_ 160]? = some (.code (nam_ 160) (cod_ 160) (mxl_ 160) (rty_ 160)) := by decide +kernel
theorem okA_161 : lw_tbl[jc_ 161]? = some (.code (nam_ 161) (cod_ 161) (mxl_ 161) (rty_ 161)) := by decide +kernel
theorem okA_162 : lw_tbl[jc_ 162]? = some (.code (nam_ 162) (cod_ 162) (mxl_ 162) (rty_ 162)) := by decide +kernel
theorem okA_163 : lw_tbl[jc_ 163]? = some (.code (nam_ 163) (cod_ 163) (mxl_ 163) (rty_ 163)) := by decide +kernel
theorem okA_164 : lw_tbl[jc_ 164]? = some (.code (nam_ 164) (cod_ 164) (mxl_ 164) (rty_ 164)) := by decide +kernel
theorem okA_165 : lw_tbl[jc_ 165]? = some (.code (nam_ 165) (cod_ 165) (mxl_ 165) (rty_ 165)) := by decide +kernel
theorem okA_166 : lw_tbl[jc_ 166]? = some (.code (nam_ 166) (cod_ 166) (mxl_ 166) (rty_ 166)) := by decide +kernel
theorem okA_167 : lw_tbl[jc_ 167]? = some (.code (nam_ 167) (cod_ 167) (mxl_ 167) (rty_ 167)) := by decide +kernel
theorem okA_168 : lw_tbl[jc_ 168]? = some (.code (nam_ 168) (cod_ 168) (mxl_ 168) (rty_ 168)) := by decide +kernel
theorem okA_169 : lw_tbl[jc_ 169]? = some (.code (nam_ 169) (cod_ 169) (mxl_ 169) (rty_ 169)) := by decide +kernel
theorem okA_170 : lw_tbl[jc_ 170]? = some (.code (nam_ 170) (cod_ 170) (mxl_ 170) (rty_ 170)) := by decide +kernel
theorem okA_171 : lw_tbl[jc_ 171]? = some (.code (nam_ 171) (cod_ 171) (mxl_ 171) (rty_ 171)) := by decide +kernel
theorem okA_172 : lw_tbl[jc_ 172]? = some (.code (nam_ 172) (cod_ 172) (mxl_ 172) (rty_ 172)) := by decide +kernel
theorem okA_173 : lw_tbl[jc_ 173]? = some (.code (nam_ 173) (cod_ 173) (mxl_ 173) (rty_ 173)) := by decide +kernel
theorem okA_174 : lw_tbl[jc_ 174]? = some (.code (nam_ 174) (cod_ 174) (mxl_ 174) (rty_ 174)) := by decide +kernel
theorem okA_175 : lw_tbl[jc_ 175]? = some (.code (nam_ 175) (cod_ 175) (mxl_ 175) (rty_ 175)) := by decide +kernel
theorem okA_179 : lw_tbl[jc_ 179]? = some (.code (nam_ 179) (cod_ 179) (mxl_ 179) (rty_ 179)) := by decide +kernel
theorem okA_180 : lw_tbl[jc_ 180]? = some (.code (nam_ 180) (cod_ 180) (mxl_ 180) (rty_ 180)) := by decide +kernel
theorem okA_181 : lw_tbl[jc_ 181]? = some (.code (nam_ 181) (cod_ 181) (mxl_ 181) (rty_ 181)) := by decide +kernel
theorem okA_182 : lw_tbl[jc_ 182]? = some (.code (nam_ 182) (cod_ 182) (mxl_ 182) (rty_ 182)) := by decide +kernel
theorem okA_183 : lw_tbl[jc_ 183]? = some (.code (nam_ 183) (cod_ 183) (mxl_ 183) (rty_ 183)) := by decide +kernel
theorem okA_184 : lw_tbl[jc_ 184]? = some (.code (nam_ 184) (cod_ 184) (mxl_ 184) (rty_ 184)) := by decide +kernel
theorem okA_185 : lw_tbl[jc_ 185]? = some (.code (nam_ 185) (cod_ 185) (mxl_ 185) (rty_ 185)) := by decide +kernel
theorem okA_186 : lw_tbl[jc_ 186]? = some (.code (nam_ 186) (cod_ 186) (mxl_ 186) (rty_ 186)) := by decide +kernel
theorem okA_187 : lw_tbl[jc_ 187]? = some (.code (nam_ 187) (cod_ 187) (mxl_ 187) (rty_ 187)) := by decide +kernel
theorem okA_188 : lw_tbl[jc_ 188]? = some (.code (nam_ 188) (cod_ 188) (mxl_ 188) (rty_ 188)) := by decide +kernel
theorem okA_189 : lw_tbl[jc_ 189]? = some (.code (nam_ 189) (cod_ 189) (mxl_ 189) (rty_ 189)) := by decide +kernel
theorem okA_190 : lw_tbl[jc_ 190]? = some (.code (nam_ 190) (cod_ 190) (mxl_ 190) (rty_ 190)) := by decide +kernel
theorem okA_191 : lw_tbl[jc_ 191]? = some (.code (nam_ 191) (cod_ 191) (mxl_ 191) (rty_ 191)) := by decide +kernel
theorem okA_192 : lw_tbl[jc_ 192]? = some (.code (nam_ 192) (cod_ 192) (mxl_ 192) (rty_ 192)) := by decide +kernel
theorem okA_193 : lw_tbl[jc_ 193]? = some (.code (nam_ 193) (cod_ 193) (mxl_ 193) (rty_ 193)) := by decide +kernel
theorem okA_194 : lw_tbl[jc_ 194]? = some (.code (nam_ 194) (cod_ 194) (mxl_ 194) (rty_ 194)) := by decide +kernel
theorem okA_195 : lw_tbl[jc_ 195]? = some (.code (nam_ 195) (cod_ 195) (mxl_ 195) (rty_ 195)) := by decide +kernel
theorem okA_196 : lw_tbl[jc_ 196]? = some (.code (nam_ 196) (cod_ 196) (mxl_ 196) (rty_ 196)) := by decide +kernel
theorem okA_197 : lw_tbl[jc_ 197]? = some (.code (nam_ 197) (cod_ 197) (mxl_ 197) (rty_ 197)) := by decide +kernel
theorem okA_198 : lw_tbl[jc_ 198]? = some (.code (nam_ 198) (cod_ 198) (mxl_ 198) (rty_ 198)) := by decide +kernel
theorem okA_199 : lw_tbl[jc_ 199]? = some (.code (nam_ 199) (cod_ 199) (mxl_ 199) (rty_ 199)) := by decide +kernel
theorem okA_ : ∀ q, q < 200 → sp_ q = false → lw_tbl[jc_ q]? = some (.code (nam_ q) (cod_ q) (mxl_ q) (rty_ q))
  | 0, _, h => okA_0
  | 1, _, h => okA_1
  | 2, _, h => okA_2
  | 3, _, h => okA_3
  | 4, _, h => okA_4
  | 5, _, h => okA_5
  | 6, _, h => okA_6
  | 7, _, h => okA_7
  | 8, _, h => okA_8
  | 9, _, h => okA_9
  | 10, _, h => okA_10
  | 11, _, h => okA_11
  | 12, _, h => okA_12
  | 13, _, h => okA_13
  | 14, _, h => okA_14
  | 15, _, h => okA_15
  | 16, _, h => okA_16
  | 17, _, h => okA_17
  | 18, _, h => okA_18
  | 19, _, h => okA_19
  | 20, _, h => okA_20
  | 21, _, h => okA_21
  | 22, _, h => okA_22
  | 23, _, h => okA_23
  | 24, _, h => okA_24
  | 25, _, h => okA_25
  | 26, _, h => okA_26
  | 27, _, h => okA_27
  | 28, _, h => okA_28
  | 29, _, h => okA_29
  | 30, _, h => okA_30
  | 31, _, h => okA_31
  | 32, _, h => okA_32
  | 33, _, h => okA_33
  | 34, _, h => okA_34
  | 35, _, h => okA_35
  | 36, _, h => okA_36
  | 37, _, h => okA_37
  | 38, _, h => okA_38
  | 39, _, h => okA_39
  | 40, _, h => okA_40
  | 41, _, h => okA_41
  | 42, _, h => okA_42
  | 43, _, h => okA_43
  | 44, _, h => okA_44
  | 45, _, h => okA_45
  | 46, _, h => okA_46
  | 47, _, h => okA_47
  | 48, _, h => okA_48
  | 49, _, h => okA_49
  | 50, _, h => okA_50
  | 51, _, h => okA_51
  | 52, _, h => okA_52
  | 53, _, h => okA_53
  | 54, _, h => okA_54
  | 55, _, h => okA_55
  | 56, _, h => okA_56
  | 57, _, h => okA_57
  | 58, _, h => okA_58
  | 59, _, h => okA_59
  | 60, _, h => okA_60
  | 61, _, h => okA_61
  | 62, _, h => okA_62
  | 63, _, h => okA_63
  | 64, _, h => okA_64
  | 65, _, h => okA_65
  | 66, _, h => okA_66
  | 67, _, h => okA_67
  | 68, _, h => okA_68
  | 69, _, h => okA_69
  | 70, _, h => okA_70
  | 71, _, h => okA_71
  | 72, _, h => okA_72
  | 73, _, h => okA_73
  | 74, _, h => okA_74
  | 75, _, h => okA_75
  | 76, _, h => okA_76
  | 77, _, h => okA_77
  | 78, _, h => okA_78
  | 79, _, h => okA_79
  | 80, _, h => okA_80
  | 81, _, h => okA_81
  | 82, _, h => okA_82
  | 83, _, h => okA_83
  | 84, _, h => okA_84
  | 85, _, h => okA_85
  | 86, _, h => okA_86
  | 87, _, h => okA_87
  | 88, _, h => okA_88
  | 89, _, h => okA_89
  | 90, _, h => okA_90
  | 91, _, h => okA_91
  | 92, _, h => okA_92
  | 93, _, h => okA_93
  | 94, _, h => okA_94
  | 95, _, h => okA_95
  | 96, _, h => okA_96
  | 97, _, h => okA_97
  | 98, _, h => okA_98
  | 99, _, h => okA_99
  | 100, _, h => okA_100
  | 101, _, h => okA_101
  | 102, _, h => okA_102
  | 103, _, h => okA_103
  | 104, _, h => okA_104
  | 105, _, h => okA_105
  | 106, _, h => okA_106
  | 107, _, h => okA_107
  | 108, _, h => okA_108
  | 109, _, h => okA_109
  | 110, _, h => okA_110
  | 111, _, h => okA_111
  | 112, _, h => okA_112
  | 113, _, h => okA_113
  | 114, _, h => okA_114
  | 115, _, h => okA_115
  | 116, _, h => okA_116
  | 117, _, h => okA_117
  | 118, _, h => okA_118
  | 119, _, h => okA_119
  | 120, _, h => okA_120
  | 121, _, h => okA_121
  | 122, _, h => okA_122
  | 123, _, h => okA_123
  | 124, _, h => okA_124
  | 125, _, h => okA_125
  | 126, _, h => okA_126
  | 127, _, h => okA_127
  | 128, _, h => okA_128
  | 129, _, h => okA_129
  | 130, _, h => okA_130
  | 131, _, h => okA_131
  | 132, _, h => okA_132
  | 133, _, h => okA_133
  | 134, _, h => okA_134
  | 135, _, h => okA_135
  | 136, _, h => okA_136
  | 137, _, h => okA_137
  | 138, _, h => okA_138
  | 139, _, h => okA_139
  | 140, _, h => okA_140
  | 141, _, h => okA_141
  | 142, _, h => okA_142
  | 143, _, h => okA_143
  | 144, _, h => okA_144
  | 145, _, h => okA_145
  | 146, _, h => okA_146
  | 147, _, h => okA_147
  | 148, _, h => okA_148
  | 149, _, h => okA_149
  | 150, _, h => okA_150
  | 151, _, h => okA_151
  | 152, _, h => okA_152
  | 153, _, h => okA_153
  | 154, _, h => okA_154
  | 155, _, h => okA_155
  | 156, _, h => okA_156
  | 157, _, h => okA_157
  | 158, _, h => okA_158
  | 159, _, h => okA_159
  | 160, _, h => okA_160
  | 161, _, h => okA_161
  | 162, _, h => okA_162
  | 163, _, h => okA_163
  | 164, _, h => okA_164
  | 165, _, h => okA_165
  | 166, _, h => okA_166
  | 167, _, h => okA_167
  | 168, _, h => okA_168
  | 169, _, h => okA_169
  | 170, _, h => okA_170
  | 171, _, h => okA_171
  | 172, _, h => okA_172
  | 173, _, h => okA_173
  | 174, _, h => okA_174
  | 175, _, h => okA_175
  | 176, _, h => by cases h
  | 177, _, h => by cases h
  | 178, _, h => by cases h
  | 179, _, h => okA_179
  | 180, _, h => okA_180
  | 181, _, h => okA_181
  | 182, _, h => okA_182
  | 183, _, h => okA_183
  | 184, _, h => okA_184
  | 185, _, h => okA_185
  | 186, _, h => okA_186
  | 187, _, h => okA_187
  | 188, _, h => okA_188
  | 189, _, h => okA_189
  | 190, _, h => okA_190
  | 191, _, h => okA_191
  | 192, _, h => okA_192
  | 193, _, h => okA_193
  | 194, _, h => okA_194
  | 195, _, h => okA_195
  | 196, _, h => okA_196
  | 197, _, h => okA_197
  | 198, _, h => okA_198
  | 199, _, h => okA_199
  | q + 200, h, _ => by omega
theorem okB_ : (List.range 200).all (fun q => (q == 178) || ckB_ q) = true := by decide +kernel
theorem okC_ : (List.range 200).all (fun q => (q == 178) || ckC_ q) = true := by decide +kernel
theorem okD_ : (List.range 200).all (fun q => (q == 178) || ckD_ q) = true := by decide +kernel
theorem okE_ : (List.range 200).all (fun q => (q == 178) || ckE_ q) = true := by decide +kernel
theorem okF_ : (List.range 200).all (fun q => (q == 178) || ckF_ q) = true := by decide +kernel
theorem okW_176 : lw_tbl[jc_ 176]? = some (.codeWith (nam_ 176) (cod_ 176) (mxl_ 176) (rty_ 176) hh_) := by decide +kernel
theorem okW_177 : lw_tbl[jc_ 177]? = some (.codeWith (nam_ 177) (cod_ 177) (mxl_ 177) (rty_ 177) hh_) := by decide +kernel
/-- the pools -/
def ckm_ (k : Nat) (e : Nat × Nat × Nat × Nat) : Bool := (decide (e.2.1 = 1000) && (decide (lw_tbl[e.2.2.1]? = some (.methodLink (clnm_ k) e.1 Lib.objectInit)) && decide (e.2.2.2 = 0))) || (decide (e.2.1 < 200) && decide (lw_tbl[e.2.2.1]? = some (if e.2.2.2 = 1 then .methodLinkNest (clnm_ k) e.1 (nam_ e.2.1) RX8 else .methodLink (clnm_ k) e.1 (nam_ e.2.1))) && (decide (e.2.2.2 = 0) || (decide (e.2.2.2 = 1) && decide (e.2.1 = 88))))
theorem okm_ : (List.range 18).all (fun k => (mpl_.getD k []).all (ckm_ k)) = true := by decide +kernel
def ckf_ (k : Nat) (e : Nat × Nat × Nat × Nat × Nat) : Bool := if e.2.1 < 16 then decide (e.2.1 < 9) && (decide (e.2.2.1 < nfl_ e.2.1) && (decide (ft_ e.2.1 e.2.2.1 = e.2.2.2.1) && (fT_ e.2.2.2.1 (T_ e.2.1 e.2.2.1).2.2.1 && (decide (lw_tbl[e.2.2.2.2]? = some (.fieldLink (clnm_ k) e.1 (T_ e.2.1 e.2.2.1).1 (T_ e.2.1 e.2.2.1).2.1 (T_ e.2.1 e.2.2.1).2.2.1)) && decide ((T_ e.2.1 e.2.2.1).1 = clnm_ e.2.1))))) else if e.2.1 = 32 then (decide (e.2.2.1 = 0 ∧ e.2.2.2.1 = 0) && decide (lw_tbl[e.2.2.2.2]? = some (.fieldLink (clnm_ k) e.1 RX6 "what" "I"))) || (decide (e.2.2.1 = 1 ∧ e.2.2.2.1 = 2) && decide (lw_tbl[e.2.2.2.2]? = some (.fieldLink (clnm_ k) e.1 RX6 "spelling" "Ljava/lang/String;"))) else decide (e.2.1 = 33) && ((decide (e.2.2.1 = 0 ∧ e.2.2.2.1 = 2) && decide (lw_tbl[e.2.2.2.2]? = some (.fieldLink (clnm_ k) e.1 RJ0 "value" "[B"))) || (decide (e.2.2.1 = 1 ∧ e.2.2.2.1 = 4) && decide (lw_tbl[e.2.2.2.2]? = some (.fieldLink (clnm_ k) e.1 RJ0 "coder" "B"))))
theorem okf_ : (List.range 18).all (fun k => (fpl_.getD k []).all (ckf_ k)) = true := by decide +kernel
theorem okt_ : (List.range 9).all (fun k => (List.range (nfl_ k)).all (fun p => fT_ (ft_ k p) (T_ k p).2.2.1)) = true := by decide +kernel
def ckc_ (k : Nat) (e : Nat × Nat × Nat) : Bool := (decide (e.2.1 < 9) && decide (lw_tbl[e.2.2]? = some (.classLink (clnm_ k) e.1 (clnm_ e.2.1)))) || (decide (e.2.1 = 32) && decide (lw_tbl[e.2.2]? = some (.classLink (clnm_ k) e.1 RX6))) || (decide (e.2.1 = 40) && decide (lw_tbl[e.2.2]? = some (.classLink (clnm_ k) e.1 "java/util/NoSuchElementException")))
theorem okc_ : (List.range 18).all (fun k => (cpl_.getD k []).all (ckc_ k)) = true := by decide +kernel
/-- statics: class, name, type, what it holds -/
def stb_ : List (String × String × String × AV) := [("PlayCompany$TermReader", "TOKENS", "[LPlayCompany$Token;", vA (some 6030755)), ("PlayCompany$Token", "AND", "LPlayCompany$Token;", vA (some 1835040)), ("PlayCompany$Token", "AT_LEAST", "LPlayCompany$Token;", vA (some 4980768)), ("PlayCompany$Token", "CLOSE", "LPlayCompany$Token;", vA (some 4194336)), ("PlayCompany$Token", "FINISH", "LPlayCompany$Token;", vA (some 5505056)), ("PlayCompany$Token", "GUEST", "LPlayCompany$Token;", vA (some 2359328)), ("PlayCompany$Token", "IF", "LPlayCompany$Token;", vA (some 1310752)), ("PlayCompany$Token", "LEAST", "LPlayCompany$Token;", vA (some 786464)), ("PlayCompany$Token", "LESS", "LPlayCompany$Token;", vA (some 4718624)), ("PlayCompany$Token", "MAY", "LPlayCompany$Token;", vA (some 262176)), ("PlayCompany$Token", "MOST", "LPlayCompany$Token;", vA (some 524320)), ("PlayCompany$Token", "NOT", "LPlayCompany$Token;", vA (some 2097184)), ("PlayCompany$Token", "NUMBER", "LPlayCompany$Token;", vA (some 5242912)), ("PlayCompany$Token", "OPEN", "LPlayCompany$Token;", vA (some 3932192)), ("PlayCompany$Token", "OR", "LPlayCompany$Token;", vA (some 1572896)), ("PlayCompany$Token", "PAY", "LPlayCompany$Token;", vA (some 1048608)), ("PlayCompany$Token", "SEMICOLON", "LPlayCompany$Token;", vA (some 4456480)), ("PlayCompany$Token", "WRONG", "LPlayCompany$Token;", vA (some 5767200)), ("java/lang/String", "COMPACT_STRINGS", "Z", vI 1), ("jdk/internal/util/Preconditions", "SIOOBE_FORMATTER", "Ljava/util/function/BiFunction;", vX 1)]
def ckk_ (k : Nat) (e : Nat × AV × Nat × Nat) : Bool := match e.2.2.2 with
  | 0 => (match e.2.1 with
    | .inl x => decide (lw_tbl[e.2.2.1]? = some (.constant (clnm_ k) e.1 x))
    | .inr (.inl x) => decide (lw_tbl[e.2.2.1]? = some (.constantLong (clnm_ k) e.1 x))
    | _ => false)
  | 1 => stb_.any (fun q => decide (lw_tbl[e.2.2.1]? = some (.fieldLink (clnm_ k) e.1 q.1 q.2.1 q.2.2.1)) && decide (q.2.2.2 = e.2.1))
  | 2 => decide (k = 8)
  | _ => false
theorem okk_ : (List.range 18).all (fun k => (kpl_.getD k []).all (ckk_ k)) = true := by decide +kernel
theorem lookup_mem {α : Type} : ∀ {l : List (Nat × α)} {i : Nat} {v : α}, l.lookup i = some v → (i, v) ∈ l
  | [], _, _, h => by cases h
  | (j, w) :: t, i, v, h => by
    by_cases e : i = j
    · subst e
      simp [List.lookup] at h
      subst h
      exact List.mem_cons_self
    · have : List.lookup i ((j, w) :: t) = List.lookup i t := by simp [List.lookup, beq_eq_false_iff_ne.mpr e]
      rw [this] at h
      exact List.mem_cons_of_mem _ (lookup_mem h)
theorem pool_all {α : Type} {t : List (List (Nat × α))} {f : Nat → Nat × α → Bool} (h : (List.range 18).all (fun k => (t.getD k []).all (f k)) = true) {k i : Nat} {v : α} (hk : k < 18) (hl : (t.getD k []).lookup i = some v) : f k (i, v) = true :=
  List.all_eq_true.mp (List.all_eq_true.mp h k (List.mem_range.mpr hk)) _ (lookup_mem hl)
end
section
/-! what the small machine's state says of the machine's -/
def cv_ (ad : Nat → Nat) (op : Value) (v : AV) : Value := match v with
  | .inl x => .int x
  | .inr (.inl x) => .long x
  | .inr (.inr (.inl o)) => va_rf (o.map ad)
  | .inr (.inr (.inr _)) => op
theorem va_rf_cat (o : Option Nat) : (va_rf o).category = 1 := by cases o <;> rfl
theorem cv_cat {ad : Nat → Nat} {op : Value} (hop : op.category = 1) (v : AV) : (cv_ ad op v).category = acat_ v := by
  rcases v with x | x | x | x
  · rfl
  · rfl
  · exact va_rf_cat _
  · exact hop
theorem cv_sum {ad : Nat → Nat} {op : Value} (hop : op.category = 1) (st : List AV) : ((st.map (cv_ ad op)).map fun v => v.category).sum = (st.map acat_).sum := by
  rw [List.map_map]
  congr 1
  apply List.map_congr_left
  intro v _
  exact cv_cat hop v
def tok_ (i : Nat) : Nat := (i + 1) * 262144 + 32
def tka_ : Nat := (23 * 4096 + 22) * 64 + 35
def scr_ (L : Nat) : Nat := L * 64 + 36
def strs_ : List Nat := (List.range 36).map (fun i => ((24 + i) * 4096 + (txt_.getD i []).length) * 64 + 33)
def byts_ : List Nat := (List.range 36).map (fun i => ((60 + i) * 4096 + (txt_.getD i []).length) * 64 + 34)
def cids_ (L : Nat) : List Nat := scr_ L :: ((List.range 22).map tok_ ++ (tka_ :: (strs_ ++ byts_)))
def A_ (B0 : Nat) : Nat → Prop := fun q => B0 ≤ q
/-- a reference that stands for a cell -/
def vl_ (L : Nat) (h : AH) (b : Nat) : Prop := sr_ b < nx_ h ∧ (kd_ b < 32 → b ∈ ids_ h) ∧ (32 ≤ kd_ b → kd_ b = 40 ∨ b ∈ cids_ L)
def vc_ (L : Nat) (h : AH) (v : AV) : Prop := ∀ b, v = .inr (.inr (.inl (some b))) → vl_ L h b
def fs_ (ad : Nat → Nat) (h : AH) (a : Nat) : List Value := (List.range (nfl_ (kd_ a))).map (fun p => if ft_ (kd_ a) p = 1 then .long (hL_ h a p) else if ft_ (kd_ a) p = 2 then va_rf ((hR_ h a p).map ad) else .int (hI_ h a p))
def ce_ (cy : Nat → ClassId) (ad : Nat → Nat) (h : AH) (a : Nat) : va_E := if kd_ a < 16 then .inr (kd_ a, fs_ ad h a) else if kd_ a = 19 then .inl (cy (kd_ a), ln_ a, .inr (.inl (hL_ h a))) else if kd_ a < 19 then .inl (cy (kd_ a), ln_ a, .inl (hI_ h a)) else .inl (cy (kd_ a), ln_ a, .inr (.inr (.inr (.inr (fun j => (hR_ h a j).map ad)))))
def pc_ (cy : Nat → ClassId) (ad : Nat → Nat) (h : AH) : va_W := (ids_ h).map (fun a => (ad a, ce_ cy ad h a))
def Rp_ (dC : Nat → ClassId) (dI : Nat → Nat → Nat) (cy : Nat → ClassId) (B0 L : Nat) (ad : Nat → Nat) (h : AH) (H : Heap) : Prop :=
  va_P (dC, dI) vwCl (pc_ cy ad h) H ∧ va_D (A_ B0) (pc_ cy ad h) ∧ (ids_ h).Nodup ∧ (∀ a ∈ ids_ h, sr_ a < nx_ h ∧ (kd_ a < 9 ∨ 16 ≤ kd_ a ∧ kd_ a ≤ 22)) ∧ (∀ a p b, hR_ h a p = some b → vl_ L h b) ∧ 96 ≤ nx_ h
def tys_ (cy : Nat → ClassId) : List (ClassId × FieldType) := [(cy 16, .int), (cy 17, .byte), (cy 18, .boolean), (cy 19, .long), (cy 20, .object RX0), (cy 21, .object RX4), (cy 22, .object RX6)]
def rtb_ : List (String × Nat × String × Nat) := [("PlayCompanyModel", 265, "may", 12058849), ("PlayCompanyModel", 271, "most", 12321057), ("PlayCompanyModel", 273, "least", 12583265), ("PlayCompanyModel", 274, "pay", 12845281), ("PlayCompanyModel", 276, "if", 13107361), ("PlayCompanyModel", 278, "or", 13369505), ("PlayCompanyModel", 280, "and", 13631713), ("PlayCompanyModel", 282, "not", 13893857), ("PlayCompanyModel", 284, "guest", 14156129), ("PlayCompanyModel", 285, "age", 14418145), ("PlayCompanyModel", 287, "years", 14680417), ("PlayCompanyModel", 289, "fee", 14942433), ("PlayCompanyModel", 290, "grade", 15204705), ("PlayCompanyModel", 291, "roles", 15466849)]
def ntb_ : List (String × Nat) := [("PlayCompany$Play", 37), ("PlayCompany$Ledger", 24), ("PlayCompany$TermReader", 67)]
/-- the constants: statics, the words' objects, the texts, the script -/
def KC_ (L : Nat) (xs : Nat → Int32) (op : Value) (A : Nat → Prop) (ad : Nat → Nat) (U : State) (H : Heap) : Prop :=
  ((∀ q ∈ stb_, va_Z q.1 q.2.1 q.2.2.1 (cv_ ad op q.2.2.2) A U H) ∧
   (∀ i, i < 22 → va_O RX6 (ad (tok_ i)) A U H ∧ va_OF RX6 "what" "I" (.int (cI_ (tok_ i) 0)) (ad (tok_ i)) A U H ∧ va_OF RX6 "spelling" "Ljava/lang/String;" (va_rf ((cR_ (tok_ i) 1).map ad)) (ad (tok_ i)) A U H) ∧
   (∀ b ∈ strs_, va_O RJ0 (ad b) A U H ∧ va_OF RJ0 "value" "[B" (va_rf ((cR_ b 0).map ad)) (ad b) A U H ∧ va_OF RJ0 "coder" "B" (.int 0) (ad b) A U H) ∧
   (∀ b ∈ byts_, va_T .byte (ad b) (ln_ b) (fun j => .int (cI_ b j)) A U H) ∧
   va_T (.object RX6) (ad tka_) 22 (fun j => va_rf ((cR_ tka_ j).map ad)) A U H ∧
   va_T .int (ad (scr_ L)) L (fun j => .int (xs j)) A U H ∧
   vx_Zq Bundle.tN "UNASSIGNED_STACK" Bundle.steD A U H ∧ vx_Zq Bundle.tN "SUPPRESSED_SENTINEL" Bundle.listD A U H) ∧
  ((∀ q ∈ rtb_, vk_R q.1 q.2.1 q.2.2.1 (ad q.2.2.2) U) ∧ (∀ q ∈ ntb_, va_Nw (.methodLinkNest q.1 q.2 yX8_within RX8) U) ∧ va_AO RX0 U ∧ va_AO RX4 U ∧ va_AO RX6 U) ∧
  ((∀ i j, i < 22 → j < 22 → ad (tok_ i) = ad (tok_ j) → i = j) ∧ op.category = 1)
theorem KC_.moved {L : Nat} {xs : Nat → Int32} {op : Value} {A : Nat → Prop} {ad : Nat → Nat} {u U : State} {H : Heap} (hW : u.WarmedH U.vm) (k : KC_ L xs op A ad u H) : KC_ L xs op A ad U H := by
  obtain ⟨⟨k1, k2, k3, k4, k5, k6, k7, k8⟩, ⟨r1, r2, r3, r4, r5⟩, kk⟩ := k
  have hv := hW.alike
  exact ⟨⟨fun q hq => (k1 q hq).moved hv, fun i hi => ⟨(k2 i hi).1.moved hv, (k2 i hi).2.1.moved hv, (k2 i hi).2.2.moved hv⟩, fun b hb => ⟨(k3 b hb).1.moved hv, (k3 b hb).2.1.moved hv, (k3 b hb).2.2.moved hv⟩, fun b hb => (k4 b hb).moved hv, k5.moved hv, k6.moved hv, k7.moved hv, k8.moved hv⟩,
    ⟨fun q hq => (r1 q hq).warm hW, fun q hq => va_Nw.warmM hW (r2 q hq), r3.moved hv, r4.moved hv, r5.moved hv⟩, kk⟩
theorem KC_.kept {L : Nat} {xs : Nat → Int32} {op : Value} {A : Nat → Prop} {ad : Nat → Nat} {U : State} {H H1 : Heap} (hq : ∀ a : Nat, a < H.size → ¬ A a → H1[a]? = H[a]?) (k : KC_ L xs op A ad U H) : KC_ L xs op A ad U H1 := by
  obtain ⟨⟨k1, k2, k3, k4, k5, k6, k7, k8⟩, kr, kk⟩ := k
  exact ⟨⟨fun q h => (k1 q h).kept hq, fun i hi => ⟨(k2 i hi).1.kept hq, (k2 i hi).2.1.kept hq, (k2 i hi).2.2.kept hq⟩, fun b hb => ⟨(k3 b hb).1.kept hq, (k3 b hb).2.1.kept hq, (k3 b hb).2.2.kept hq⟩, fun b hb => (k4 b hb).kept hq, k5.kept hq, k6.kept hq, k7.kept hq, k8.kept hq⟩, kr, kk⟩
theorem KC_.same {L : Nat} {xs : Nat → Int32} {op : Value} {A : Nat → Prop} {ad : Nat → Nat} {u U : State} {H : Heap} (hv : U.vm = u.vm) (k : KC_ L xs op A ad u H) : KC_ L xs op A ad U H := by
  obtain ⟨⟨k1, k2, k3, k4, k5, k6, k7, k8⟩, ⟨r1, r2, r3, r4, r5⟩, kk⟩ := k
  have ha : u.vm.Alike U.vm := by rw [hv]; exact Vm.Alike.refl _
  exact ⟨⟨fun q hq => (k1 q hq).moved ha, fun i hi => ⟨(k2 i hi).1.moved ha, (k2 i hi).2.1.moved ha, (k2 i hi).2.2.moved ha⟩, fun b hb => ⟨(k3 b hb).1.moved ha, (k3 b hb).2.1.moved ha, (k3 b hb).2.2.moved ha⟩, fun b hb => (k4 b hb).moved ha, k5.moved ha, k6.moved ha, k7.moved ha, k8.moved ha⟩,
    ⟨fun q hq => (r1 q hq).same hv, fun q hq => va_Nw.same rfl hv.symm (r2 q hq), r3.moved ha, r4.moved ha, r5.moved ha⟩, kk⟩
theorem cR_sr : (∀ i, i < 22 → (cR_ (tok_ i) 1).all (fun b => sr_ b < 96) = true ∧ sr_ (tok_ i) < 96) := by decide +kernel
theorem strs_sr : strs_.all (fun b => decide (sr_ b < 96) && (cR_ b 0).all (fun c => decide (sr_ c < 96))) = true := by decide +kernel
theorem byts_sr : byts_.all (fun b => decide (sr_ b < 96)) = true := by decide +kernel
theorem stb_sr : stb_.all (fun q => match q.2.2.2 with | .inr (.inr (.inl (some b))) => decide (sr_ b < 96) | _ => true) = true := by decide +kernel
theorem rtb_sr : rtb_.all (fun q => decide (sr_ q.2.2.2 < 96)) = true := by decide +kernel
theorem tka_sr : sr_ tka_ < 96 ∧ ∀ j, j < 22 → (cR_ tka_ j).all (fun b => sr_ b < 96) = true := by decide +kernel
theorem omap_eq {f g : Nat → Nat} {o : Option Nat} (h : ∀ b, o = some b → f b = g b) : o.map f = o.map g := by
  cases o with
  | none => rfl
  | some b => exact congrArg some (h b rfl)
theorem va_T.congr {ty : FieldType} {t N : Nat} {f g : Nat → Value} {A : Nat → Prop} {U : State} {H : Heap} (h : ∀ j, j < N → f j = g j) (k : va_T ty t N f A U H) : va_T ty t N g A U H := by
  obtain ⟨cell, h1, h2, h3, h4, h5, h6, h7⟩ := k
  exact ⟨cell, h1, h2, h3, h4, h5, fun j hj => by rw [h6 j hj, h j hj], h7⟩
/-- the constants don't see where new cells lie -/
theorem KC_.ad {L : Nat} {xs : Nat → Int32} {op : Value} {A : Nat → Prop} {ad ad' : Nat → Nat} {U : State} {H : Heap} (hL : L < 4096) (e : ∀ a, sr_ a < 96 → ad' a = ad a) (k : KC_ L xs op A ad U H) : KC_ L xs op A ad' U H := by
  obtain ⟨⟨k1, k2, k3, k4, k5, k6, k7, k8⟩, ⟨r1, r2, r3, r4, r5⟩, kk, ko⟩ := k
  have et : ∀ i, i < 22 → ad' (tok_ i) = ad (tok_ i) := fun i hi => e _ (cR_sr i hi).2
  have eo : ∀ {o : Option Nat}, o.all (fun b => decide (sr_ b < 96)) = true → o.map ad' = o.map ad := by
    intro o ho
    exact omap_eq (fun b hb => e b (by rw [hb] at ho; simpa using ho))
  refine ⟨⟨fun q hq => ?_, fun i hi => ?_, fun b hb => ?_, fun b hb => ?_, ?_, ?_, k7, k8⟩, ⟨fun q hq => ?_, r2, r3, r4, r5⟩, fun i j hi hj h => kk i j hi hj (by rw [← et i hi, ← et j hj]; exact h), ko⟩
  · have h1 := List.all_eq_true.mp stb_sr q hq
    have h2 := k1 q hq
    rcases hv : q.2.2.2 with x | x | x | x
    · rw [hv] at h2; exact h2
    · rw [hv] at h2; exact h2
    · rw [hv] at h1 h2
      cases x with
      | none => exact h2
      | some b =>
        have hb : ad' b = ad b := e b (by simpa using h1)
        show va_Z q.1 q.2.1 q.2.2.1 (.ref (ad' b)) A U H
        rw [hb]
        exact h2
    · rw [hv] at h2; exact h2
  · rw [et i hi, eo (cR_sr i hi).1]
    exact k2 i hi
  · have h1 := List.all_eq_true.mp strs_sr b hb
    rw [Bool.and_eq_true, decide_eq_true_iff] at h1
    rw [e b h1.1, eo h1.2]
    exact k3 b hb
  · rw [e b (by simpa using List.all_eq_true.mp byts_sr b hb)]
    exact k4 b hb
  · rw [e _ tka_sr.1]
    exact k5.congr (fun j hj => by rw [eo (tka_sr.2 j hj)])
  · rw [e (scr_ L) (by unfold sr_ scr_; omega)]
    exact k6
  · rw [e _ (by simpa using List.all_eq_true.mp rtb_sr q hq)]
    exact r1 q hq
/-- the machine's frame and what the tables say, at a method of ours -/
def Cx_ (p : Program) (l : Launch) (R : Room) (s : State) (m : MethodId) (args : Array Value) (meth : Method) (c : Code) (dC : Nat → ClassId) (dI : Nat → Nat → Nat) (cy : Nat → ClassId) (op : Value) (B0 L : Nat) (xs : Nat → Int32) (q : Nat) : Prop :=
  (p.tables.exec = Jvm.exec ∧ c.code = cod_ q ∧ c.maxLocals = mxl_ q ∧ s.vm.findClass (clnm_ (kap_ q)) = some m.cls ∧ (∀ w ∈ gtb_, w.before args s = true)) ∧ va_K (dC, dI) vwCl (tys_ cy) s ∧ (B0 ≤ s.heap.size ∧ L < 4096 ∧ q < 200) ∧ meth.locks = false ∧ meth.sig.returnType = rty_ q ∧ meth.name = (nam_ q).name ∧ l.stackTraces = false
def Lr_ (ad : Nat → Nat) (op : Value) (nL : Nat) (ls : List AV) (la : Array Slot) : Prop := la.size = nL ∧ lv_wf la ∧ ls.length = nL ∧ ∀ (i : Nat) (v : AV), ls[i]? = some v → v ≠ vX 0 → la[i]? = some (.val (cv_ ad op v))
def Sm_ (p : Program) (l : Launch) (e : Env) (R : Room) (s : State) (m : MethodId) (args : Array Value) (below : List Frame) (meth : Method) (c : Code) (dC : Nat → ClassId) (dI : Nat → Nat → Nat) (cy : Nat → ClassId) (op : Value) (B0 L : Nat) (xs : Nat → Int32) (ad0 : Nat → Nat) (n0 s0 : Nat) (Q : State → Prop) (q pc : Nat) (ls st : List AV) (h : AH) : Prop :=
  ∀ (ad : Nat → Nat) (la : Array Slot) (H : Heap) (locs : List Loc), (∀ a, sr_ a < n0 → ad a = ad0 a) → Rp_ dC dI cy B0 L ad h H → KC_ L xs op (A_ B0) ad s s.heap → Lr_ ad op (mxl_ q) ls la → (∀ v ∈ ls, vc_ L h v) → (∀ v ∈ st, vc_ L h v) → (∀ (i : Nat) (x : Int64), ls[i]? = some (vJ x) → i ∈ lgs_ q) → va_S (A_ B0) s.heap H locs → n0 ≤ nx_ h → s0 ≤ sl_ h →
    W p l e R s m args below meth c H locs (nx_ h - n0) (sl_ h - s0) Q (F0 m pc la (st.map (cv_ ad op)))
end
section
/-! plain instructions: the small machine's step is the machine's -/
section PLN
variable {p : Program} {l : Launch} {e : Env} {R : Room} {s : State} {m : MethodId} {args : Array Value} {below : List Frame} {meth : Method} {c : Code} {dC : Nat → ClassId} {dI : Nat → Nat → Nat} {cy : Nat → ClassId} {op : Value} {B0 L : Nat} {xs : Nat → Int32} {ad0 : Nat → Nat} {n0 s0 : Nat} {Q : State → Prop} {q pc len : Nat} {ls st ls' st' : List AV} {h : AH} {i : Instr} {v : AV}
theorem vcI {x : Int32} : vc_ L h (.inl x) := fun b hb => by cases hb
theorem vcJ {x : Int64} : vc_ L h (.inr (.inl x)) := fun b hb => by cases hb
theorem vcN : vc_ L h (.inr (.inr (.inl none))) := fun b hb => by cases hb
theorem vcX {n : Nat} : vc_ L h (.inr (.inr (.inr n))) := fun b hb => by cases hb
theorem lok_eq {n : Nat} (hk : (len == n) = true) : len = n := by simpa using hk
theorem all_cons {P : AV → Prop} (h1 : P v) (h2 : ∀ w ∈ st, P w) : ∀ w ∈ v :: st, P w := fun w hw => (List.mem_cons.mp hw).elim (fun z => z ▸ h1) (h2 w)
theorem sd_exc (C : Cx_ p l R s m args meth c dC dI cy op B0 L xs q) (hd : decode (cod_ q) pc = .ok (i, len)) (hk : lok_ i len = true) (hv : exc_ i = some v) (K : Sm_ p l e R s m args below meth c dC dI cy op B0 L xs ad0 n0 s0 Q q (pc + len) ls (v :: st) h) : Sm_ p l e R s m args below meth c dC dI cy op B0 L xs ad0 n0 s0 Q q pc ls st h := by
  obtain ⟨⟨hx, hb, hml, ho, ht⟩, hK0, hB, hlk, hrt, hnm, hst⟩ := C
  intro ad la H locs e1 hR hKC hL hc1 hc2 hF hS hn hs
  have hvc : vc_ L h v := by
    cases i <;> first | (cases hv; done) | (cases hv; intro b hb; cases hb)
  have k := K ad la H locs e1 hR hKC hL hc1 (all_cons hvc hc2) hF hS hn hs
  cases i <;> first | (cases hv; done) | skip
  case aconst_null => cases lok_eq hk; cases hv; exact lv_null hx hb hd k
  case bipush n => cases lok_eq hk; cases hv; exact lv_bipush hx hb hd rfl k
  case iconst n => cases lok_eq hk; cases hv; exact lv_iconst hx hb hd rfl k
  case lconst n => cases lok_eq hk; cases hv; exact lv_lconst hx hb hd rfl k
  case sipush n => cases lok_eq hk; cases hv; exact lv_sipush hx hb hd rfl k
theorem ldI_eq {k : Nat} (hv : ldI_ ls k = some v) : ∃ x, v = .inl x ∧ ls[k]? = some (.inl x) := by
  unfold ldI_ at hv
  split at hv
  · cases hv; exact ⟨_, rfl, by assumption⟩
  · cases hv
theorem ldL_eq {k : Nat} (hv : ldL_ ls k = some v) : ∃ x, v = .inr (.inl x) ∧ ls[k]? = some (.inr (.inl x)) := by
  unfold ldL_ at hv
  split at hv
  · cases hv; exact ⟨_, rfl, by assumption⟩
  · cases hv
theorem ldA_eq {k : Nat} (hv : ldA_ ls k = some v) : ∃ x, v = .inr (.inr (.inl x)) ∧ ls[k]? = some (.inr (.inr (.inl x))) := by
  unfold ldA_ at hv
  split at hv
  · cases hv; exact ⟨_, rfl, by assumption⟩
  · cases hv
theorem sd_exl (C : Cx_ p l R s m args meth c dC dI cy op B0 L xs q) (hd : decode (cod_ q) pc = .ok (i, len)) (hk : lok_ i len = true) (hv : exl_ i ls = some v) (K : Sm_ p l e R s m args below meth c dC dI cy op B0 L xs ad0 n0 s0 Q q (pc + len) ls (v :: st) h) : Sm_ p l e R s m args below meth c dC dI cy op B0 L xs ad0 n0 s0 Q q pc ls st h := by
  obtain ⟨⟨hx, hb, hml, ho, ht⟩, hK0, hB, hlk, hrt, hnm, hst⟩ := C
  intro ad la H locs e1 hR hKC hL hc1 hc2 hF hS hn hs
  have hin : v ∈ ls := by
    cases i <;> first | (cases hv; done) | (obtain ⟨x, rfl, hg⟩ := ldI_eq hv; exact List.mem_of_getElem? hg) | (obtain ⟨x, rfl, hg⟩ := ldL_eq hv; exact List.mem_of_getElem? hg) | (obtain ⟨x, rfl, hg⟩ := ldA_eq hv; exact List.mem_of_getElem? hg)
  have k := K ad la H locs e1 hR hKC hL hc1 (all_cons (hc1 v hin) hc2) hF hS hn hs
  cases i <;> first | (cases hv; done) | skip
  case iload n => cases lok_eq hk; obtain ⟨x, rfl, hg⟩ := ldI_eq hv; exact lv_iload hx hb hd (hL.2.2.2 _ _ hg (by intro z; cases z)) k
  case iload_n n => cases lok_eq hk; obtain ⟨x, rfl, hg⟩ := ldI_eq hv; exact lv_iload_n hx hb hd rfl (hL.2.2.2 _ _ hg (by intro z; cases z)) k
  case lload n => cases lok_eq hk; obtain ⟨x, rfl, hg⟩ := ldL_eq hv; exact lv_lload hx hb hd (hL.2.2.2 _ _ hg (by intro z; cases z)) k
  case lload_n n => cases lok_eq hk; obtain ⟨x, rfl, hg⟩ := ldL_eq hv; exact lv_lload_n hx hb hd rfl (hL.2.2.2 _ _ hg (by intro z; cases z)) k
  case aload n =>
    cases lok_eq hk
    obtain ⟨x, rfl, hg⟩ := ldA_eq hv
    cases x with
    | none => exact lv_aloadN hx hb hd (hL.2.2.2 _ _ hg (by intro z; cases z)) k
    | some x => exact lv_aload hx hb hd (hL.2.2.2 _ _ hg (by intro z; cases z)) k
  case aload_n n =>
    cases lok_eq hk
    obtain ⟨x, rfl, hg⟩ := ldA_eq hv
    cases x with
    | none => exact lv_aload_nN hx hb hd rfl (hL.2.2.2 _ _ hg (by intro z; cases z)) k
    | some x => exact lv_aload_n hx hb hd rfl (hL.2.2.2 _ _ hg (by intro z; cases z)) k
theorem bI_eq {f : Int32 → Int32 → Int32} (hv : bI_ f st = some st') : ∃ x y r, st = .inl y :: .inl x :: r ∧ st' = .inl (f x y) :: r := by
  unfold bI_ at hv
  split at hv
  · cases hv; exact ⟨_, _, _, rfl, rfl⟩
  · cases hv
theorem bL_eq {f : Int64 → Int64 → Int64} (hv : bL_ f st = some st') : ∃ x y r, st = .inr (.inl y) :: .inr (.inl x) :: r ∧ st' = .inr (.inl (f x y)) :: r := by
  unfold bL_ at hv
  split at hv
  · cases hv; exact ⟨_, _, _, rfl, rfl⟩
  · cases hv
theorem exa_mem (hv : exa_ i st = some st') : ∀ w ∈ st', w ∈ st ∨ ∀ b, w ≠ .inr (.inr (.inl (some b))) := by
  intro w hw
  unfold exa_ at hv
  split at hv
  all_goals first
    | (obtain ⟨x, y, r, rfl, rfl⟩ := bI_eq hv; rcases List.mem_cons.mp hw with rfl | hw <;> first | (right; intro b z; cases z; done) | (left; simp [hw]))
    | (obtain ⟨x, y, r, rfl, rfl⟩ := bL_eq hv; rcases List.mem_cons.mp hw with rfl | hw <;> first | (right; intro b z; cases z; done) | (left; simp [hw]))
    | (split at hv <;> first
        | (cases hv; done)
        | (cases hv; rcases List.mem_cons.mp hw with rfl | hw <;> first | (right; intro b z; cases z; done) | (left; simp [hw]))
        | (split at hv <;> first
            | (cases hv; done)
            | (cases hv; rcases List.mem_cons.mp hw with rfl | hw <;> first | (right; intro b z; cases z; done) | (left; simp [hw]; done))
            | (cases hv; left; simp at hw ⊢; first | exact hw | (rcases hw with rfl | rfl | hw <;> simp_all) | (rcases hw with rfl | rfl | rfl | hw <;> simp_all) | (rcases hw with rfl | rfl | rfl | rfl | hw <;> simp_all) | simp_all)))
    | (cases hv; done)
end PLN
end
section
/-! plain instructions, second part: arithmetic, stores, jumps -/
section PL2
variable {p : Program} {l : Launch} {e : Env} {R : Room} {s : State} {m : MethodId} {args : Array Value} {below : List Frame} {meth : Method} {c : Code} {dC : Nat → ClassId} {dI : Nat → Nat → Nat} {cy : Nat → ClassId} {op : Value} {B0 L : Nat} {xs : Nat → Int32} {ad0 : Nat → Nat} {n0 s0 : Nat} {Q : State → Prop} {q pc len : Nat} {ls st ls' st' : List AV} {h : AH} {i : Instr} {v : AV}
theorem sd_exa (C : Cx_ p l R s m args meth c dC dI cy op B0 L xs q) (hd : decode (cod_ q) pc = .ok (i, len)) (hk : lok_ i len = true) (hv : exa_ i st = some st') (K : Sm_ p l e R s m args below meth c dC dI cy op B0 L xs ad0 n0 s0 Q q (pc + len) ls st' h) : Sm_ p l e R s m args below meth c dC dI cy op B0 L xs ad0 n0 s0 Q q pc ls st h := by
  obtain ⟨⟨hx, hb, hml, ho, ht⟩, hK0, hB, hlk, hrt, hnm, hst⟩ := C
  intro ad la H locs e1 hR hKC hL hc1 hc2 hF hS hn hs
  have hc3 : ∀ w ∈ st', vc_ L h w := fun w hw => (exa_mem hv w hw).elim (hc2 w) (fun z b hb => absurd hb (z b))
  have k := K ad la H locs e1 hR hKC hL hc1 hc3 hF hS hn hs
  have hop : op.category = 1 := hKC.2.2.2
  unfold exa_ at hv
  split at hv
  case h_1 => cases lok_eq hk; obtain ⟨x, y, r, rfl, rfl⟩ := bI_eq hv; exact lv_iadd hx hb hd k
  case h_2 => cases lok_eq hk; obtain ⟨x, y, r, rfl, rfl⟩ := bI_eq hv; exact lv_isub hx hb hd k
  case h_3 => cases lok_eq hk; obtain ⟨x, y, r, rfl, rfl⟩ := bI_eq hv; exact lv_imul hx hb hd k
  case h_4 => cases lok_eq hk; obtain ⟨x, y, r, rfl, rfl⟩ := bI_eq hv; exact lv_iand hx hb hd k
  case h_5 => cases lok_eq hk; obtain ⟨x, y, r, rfl, rfl⟩ := bI_eq hv; exact lv_ior hx hb hd k
  case h_6 => cases lok_eq hk; obtain ⟨x, y, r, rfl, rfl⟩ := bI_eq hv; exact lv_ixor hx hb hd k
  case h_7 => cases lok_eq hk; obtain ⟨x, y, r, rfl, rfl⟩ := bI_eq hv; exact lv_ishl hx hb hd k
  case h_8 => cases lok_eq hk; obtain ⟨x, y, r, rfl, rfl⟩ := bI_eq hv; exact lv_ishr hx hb hd k
  case h_9 => cases lok_eq hk; obtain ⟨x, y, r, rfl, rfl⟩ := bI_eq hv; exact lv_iushr hx hb hd rfl k
  case h_10 =>
    cases lok_eq hk
    split at hv
    · split at hv
      · cases hv
      · rename_i hy; cases hv; exact lv_idiv hx hb hd hy k
    · cases hv
  case h_11 =>
    cases lok_eq hk
    split at hv
    · split at hv
      · cases hv
      · rename_i hy; cases hv; exact lv_irem hx hb hd hy k
    · cases hv
  case h_12 =>
    cases lok_eq hk
    split at hv
    · cases hv; exact lv_ineg hx hb hd k
    · cases hv
  case h_13 => cases lok_eq hk; obtain ⟨x, y, r, rfl, rfl⟩ := bL_eq hv; exact lv_ladd hx hb hd k
  case h_14 => cases lok_eq hk; obtain ⟨x, y, r, rfl, rfl⟩ := bL_eq hv; exact lv_lsub hx hb hd k
  case h_15 => cases lok_eq hk; obtain ⟨x, y, r, rfl, rfl⟩ := bL_eq hv; exact lv_lmul hx hb hd k
  case h_16 => cases lok_eq hk; obtain ⟨x, y, r, rfl, rfl⟩ := bL_eq hv; exact lv_land hx hb hd k
  case h_17 => cases lok_eq hk; obtain ⟨x, y, r, rfl, rfl⟩ := bL_eq hv; exact lv_lor hx hb hd k
  case h_18 => cases lok_eq hk; obtain ⟨x, y, r, rfl, rfl⟩ := bL_eq hv; exact lv_lxor hx hb hd k
  case h_19 =>
    cases lok_eq hk
    split at hv
    · split at hv
      · cases hv
      · rename_i hy; cases hv; exact lv_ldiv hx hb hd hy k
    · cases hv
  case h_20 =>
    cases lok_eq hk
    split at hv
    · cases hv; exact lv_lneg hx hb hd k
    · cases hv
  case h_21 =>
    cases lok_eq hk
    split at hv
    · cases hv; exact lv_lushr hx hb hd rfl k
    · cases hv
  case h_22 =>
    cases lok_eq hk
    split at hv
    · cases hv; exact lv_lshl hx hb hd rfl k
    · cases hv
  case h_23 =>
    cases lok_eq hk
    split at hv
    · cases hv; exact W.lcmp hx hb hd k
    · cases hv
  case h_24 =>
    cases lok_eq hk
    split at hv
    · cases hv; exact lv_i2l hx hb hd rfl k
    · cases hv
  case h_25 =>
    cases lok_eq hk
    split at hv
    · cases hv; exact lv_l2i hx hb hd rfl k
    · cases hv
  case h_26 =>
    cases lok_eq hk
    split at hv
    · cases hv; exact lv_i2b hx hb hd rfl k
    · cases hv
  case h_27 =>
    cases lok_eq hk
    split at hv
    · cases hv; exact lv_i2c hx hb hd rfl k
    · cases hv
  case h_28 =>
    cases lok_eq hk
    split at hv
    · split at hv
      · rename_i h1; cases hv; exact lv_dup hx hb hd (by rw [cv_cat hop]; exact h1) k
      · cases hv
    · cases hv
  case h_29 =>
    cases lok_eq hk
    split at hv
    · split at hv
      · rename_i h1; cases hv; exact lv_pop hx hb hd (by rw [cv_cat hop]; exact h1) k
      · cases hv
    · cases hv
  case h_30 =>
    cases lok_eq hk
    split at hv
    · split at hv
      · rename_i h1; cases hv; exact lv_dup_x1 hx hb hd (by rw [cv_cat hop]; exact h1.1) (by rw [cv_cat hop]; exact h1.2) k
      · cases hv
    · cases hv
  case h_31 =>
    cases lok_eq hk
    split at hv
    · split at hv
      · rename_i h1; cases hv; exact lv_dup2_11 hx hb hd (by rw [cv_cat hop]; exact h1.1) (by rw [cv_cat hop]; exact h1.2) k
      · cases hv
    · cases hv
  case h_32 => cases hv
/-- what is known of the locals, as a list -/
def lvs_ (ad : Nat → Nat) (op : Value) (ls : List AV) : List (Nat × Value) := (List.range ls.length).filterMap (fun i => (ls[i]?).bind (fun v => if v = vX 0 then none else some (i, cv_ ad op v)))
theorem lvs_mem {ad : Nat → Nat} {i : Nat} {w : Value} : (i, w) ∈ lvs_ ad op ls ↔ ∃ v, ls[i]? = some v ∧ v ≠ vX 0 ∧ w = cv_ ad op v := by
  unfold lvs_
  rw [List.mem_filterMap]
  constructor
  · rintro ⟨j, -, hj⟩
    cases hl : ls[j]? with
    | none => rw [hl] at hj; cases hj
    | some v =>
      rw [hl] at hj
      dsimp only [Option.bind_some] at hj
      split at hj
      · cases hj
      · rename_i hv
        cases hj
        exact ⟨v, hl, hv, rfl⟩
  · rintro ⟨v, h1, h2, rfl⟩
    refine ⟨i, List.mem_range.mpr (List.getElem?_eq_some_iff.mp h1).1, ?_⟩
    rw [h1]
    dsimp only [Option.bind_some]
    rw [if_neg h2]
theorem Lr_.has {ad : Nat → Nat} {nL : Nat} {la : Array Slot} (hL : Lr_ ad op nL ls la) : lv_has la nL (lvs_ ad op ls) := by
  refine ⟨hL.1, hL.2.1, ?_⟩
  rintro ⟨i, w⟩ hq
  obtain ⟨v, h1, h2, rfl⟩ := lvs_mem.mp hq
  exact hL.2.2.2 i v h1 h2
theorem cat2 {ad : Nat → Nat} (hop : op.category = 1) {v : AV} (h2 : (cv_ ad op v).category = 2) : ∃ x, v = vJ x := by
  rw [cv_cat hop] at h2
  rcases v with x | x | x | x
  · cases h2
  · exact ⟨x, rfl⟩
  · cases h2
  · cases h2
/-- behind a store of a word -/
theorem Lr_.sto {ad : Nat → Nat} {nL k : Nat} {la la' : Array Slot} (hop : op.category = 1) (hL : Lr_ ad op nL ls la) (hF : ∀ (i : Nat) (x : Int64), ls[i]? = some (vJ x) → i ∈ lgs_ q) (hk : k < ls.length ∧ (k = 0 ∨ ¬ (k - 1) ∈ lgs_ q))
    (h' : lv_has la' nL ((k, cv_ ad op v) :: (lvs_ ad op ls).filter (fun q => !(q.1 == k) && !(q.1 + 1 == k && q.2.category == 2)))) : Lr_ ad op nL (ls.set k v) la' := by
  refine ⟨h'.1, h'.2.1, by rw [List.length_set]; exact hL.2.2.1, fun j w hj hw => ?_⟩
  rw [List.getElem?_set] at hj
  split at hj
  · rename_i e9
    rw [if_pos (by omega)] at hj
    cases hj
    subst e9
    exact h'.2.2 _ List.mem_cons_self
  · rename_i hne
    refine h'.2.2 (j, cv_ ad op w) (List.mem_cons_of_mem _ (List.mem_filter.mpr ⟨lvs_mem.mpr ⟨w, hj, hw, rfl⟩, ?_⟩))
    simp only [Bool.and_eq_true, Bool.not_eq_true', beq_eq_false_iff_ne, Bool.and_eq_false_iff]
    refine ⟨fun z => hne z.symm, ?_⟩
    by_cases hc : (cv_ ad op w).category = 2
    · obtain ⟨x, rfl⟩ := cat2 hop hc
      left
      intro z
      have := hF j x hj
      rcases hk.2 with h0 | h0
      · omega
      · exact h0 (by rw [← z]; simpa using this)
    · right; exact hc
theorem Lr_.stl {ad : Nat → Nat} {nL k : Nat} {la la' : Array Slot} (hop : op.category = 1) (hL : Lr_ ad op nL ls la) (hF : ∀ (i : Nat) (x : Int64), ls[i]? = some (vJ x) → i ∈ lgs_ q) (hk : k + 1 < ls.length ∧ k ∈ lgs_ q ∧ (k = 0 ∨ ¬ (k - 1) ∈ lgs_ q))
    (h' : lv_has la' nL ((k, cv_ ad op v) :: (lvs_ ad op ls).filter (fun q => !(q.1 == k) && (!(q.1 == k + 1) && !(q.1 + 1 == k && q.2.category == 2))))) : Lr_ ad op nL ((ls.set k v).set (k + 1) (vX 0)) la' := by
  refine ⟨h'.1, h'.2.1, by rw [List.length_set, List.length_set]; exact hL.2.2.1, fun j w hj hw => ?_⟩
  rw [List.getElem?_set] at hj
  split at hj
  · rename_i e9
    rw [if_pos (by rw [List.length_set]; omega)] at hj
    cases hj
    exact absurd rfl hw
  · rename_i hne1
    rw [List.getElem?_set] at hj
    split at hj
    · rename_i e9
      rw [if_pos (by omega)] at hj
      cases hj
      subst e9
      exact h'.2.2 _ List.mem_cons_self
    · rename_i hne
      refine h'.2.2 (j, cv_ ad op w) (List.mem_cons_of_mem _ (List.mem_filter.mpr ⟨lvs_mem.mpr ⟨w, hj, hw, rfl⟩, ?_⟩))
      simp only [Bool.and_eq_true, Bool.not_eq_true', beq_eq_false_iff_ne, Bool.and_eq_false_iff]
      refine ⟨fun z => hne z.symm, fun z => hne1 z.symm, ?_⟩
      by_cases hc : (cv_ ad op w).category = 2
      · obtain ⟨x, rfl⟩ := cat2 hop hc
        left
        intro z
        have := hF j x hj
        rcases hk.2.2 with h0 | h0
        · omega
        · exact h0 (by rw [← z]; simpa using this)
      · right; exact hc
theorem set_mem {α : Type} {l : List α} {k : Nat} {v w : α} (hw : w ∈ l.set k v) : w = v ∨ w ∈ l := by
  rcases List.mem_or_eq_of_mem_set hw with h | h
  · exact Or.inr h
  · exact Or.inl h
theorem sto_F {k : Nat} (hF : ∀ (i : Nat) (x : Int64), ls[i]? = some (vJ x) → i ∈ lgs_ q) (hv : ∀ x, v ≠ vJ x) : ∀ (i : Nat) (x : Int64), (ls.set k v)[i]? = some (vJ x) → i ∈ lgs_ q := by
  intro i x hi
  rw [List.getElem?_set] at hi
  split at hi
  · split at hi
    · cases hi; exact absurd rfl (hv x)
    · cases hi
  · exact hF i x hi
theorem sto_eq {lg : List Nat} {k : Nat} (hs : sto_ lg ls k v = some ls') : (k < ls.length ∧ (k = 0 ∨ ¬ (k - 1) ∈ lg)) ∧ ls' = ls.set k v := by
  unfold sto_ at hs
  split at hs
  · cases hs; exact ⟨by assumption, rfl⟩
  · cases hs
theorem stl_eq {lg : List Nat} {k : Nat} (hs : stl_ lg ls k v = some ls') : (k + 1 < ls.length ∧ k ∈ lg ∧ (k = 0 ∨ ¬ (k - 1) ∈ lg)) ∧ ls' = (ls.set k v).set (k + 1) (vX 0) := by
  unfold stl_ at hs
  split at hs
  · cases hs; exact ⟨by assumption, rfl⟩
  · cases hs
theorem omap_some {α β : Type} {o : Option α} {f : α → β} {r : β} (h : o.map f = some r) : ∃ a, o = some a ∧ f a = r := by
  cases o with
  | none => cases h
  | some a => exact ⟨a, rfl, Option.some.inj h⟩
theorem sd_exs (C : Cx_ p l R s m args meth c dC dI cy op B0 L xs q) (hd : decode (cod_ q) pc = .ok (i, len)) (hk : lok_ i len = true) (hv : exs_ (lgs_ q) i ls st = some (ls', st')) (K : Sm_ p l e R s m args below meth c dC dI cy op B0 L xs ad0 n0 s0 Q q (pc + len) ls' st' h) : Sm_ p l e R s m args below meth c dC dI cy op B0 L xs ad0 n0 s0 Q q pc ls st h := by
  obtain ⟨⟨hx, hb, hml, ho, ht⟩, hK0, hB, hlk, hrt, hnm, hst⟩ := C
  intro ad la H locs e1 hR hKC hL hc1 hc2 hF hS hn hs
  have hop : op.category = 1 := hKC.2.2.2
  have tl : ∀ {w : AV} {r : List AV}, st = w :: r → ∀ z ∈ r, vc_ L h z := fun hh z hz => hc2 z (by rw [hh]; exact List.mem_cons_of_mem _ hz)
  have hd1 : ∀ {w : AV} {r : List AV}, st = w :: r → vc_ L h w := fun hh => hc2 _ (by rw [hh]; exact List.mem_cons_self)
  have one : ∀ {k : Nat} {w : AV} {r : List AV} {la' : Array Slot}, (k < ls.length ∧ (k = 0 ∨ ¬ (k - 1) ∈ lgs_ q)) → (∀ x, w ≠ vJ x) → vc_ L h w → ls' = ls.set k w → (∀ z ∈ r, vc_ L h z) → st' = r →
      lv_has la' (mxl_ q) ((k, cv_ ad op w) :: (lvs_ ad op ls).filter (fun q => !(q.1 == k) && !(q.1 + 1 == k && q.2.category == 2))) → W p l e R s m args below meth c H locs (nx_ h - n0) (sl_ h - s0) Q (F0 m (pc + len) la' (r.map (cv_ ad op))) := by
    intro k w r la' h1 h2 h3 h4 h5 h6 h7
    subst h4 h6
    exact K ad la' H locs e1 hR hKC (Lr_.sto hop hL hF h1 h7) (fun z hz => (set_mem hz).elim (fun zz => zz ▸ h3) (hc1 z)) h5 (sto_F hF h2) hS hn hs
  have two : ∀ {k : Nat} {x : Int64} {r : List AV} {la' : Array Slot}, (k + 1 < ls.length ∧ k ∈ lgs_ q ∧ (k = 0 ∨ ¬ (k - 1) ∈ lgs_ q)) → ls' = (ls.set k (vJ x)).set (k + 1) (vX 0) → (∀ z ∈ r, vc_ L h z) → st' = r →
      lv_has la' (mxl_ q) ((k, cv_ ad op (vJ x)) :: (lvs_ ad op ls).filter (fun q => !(q.1 == k) && (!(q.1 == k + 1) && !(q.1 + 1 == k && q.2.category == 2)))) → W p l e R s m args below meth c H locs (nx_ h - n0) (sl_ h - s0) Q (F0 m (pc + len) la' (r.map (cv_ ad op))) := by
    intro k x r la' h1 h4 h5 h6 h7
    subst h4 h6
    refine K ad la' H locs e1 hR hKC (Lr_.stl hop hL hF h1 h7) (fun z hz => ?_) h5 (fun j y hj => ?_) hS hn hs
    · rcases set_mem hz with rfl | hz
      · exact vcX
      · rcases set_mem hz with rfl | hz
        · exact vcJ
        · exact hc1 z hz
    · rw [List.getElem?_set] at hj
      split at hj
      · split at hj
        · cases hj
        · cases hj
      · rw [List.getElem?_set] at hj
        split at hj
        · rename_i e9
          rw [← e9]
          exact h1.2.1
        · exact hF j y hj
  have hlen : ∀ {k : Nat}, k < ls.length → k < mxl_ q := fun hh => by rw [← hL.2.2.1]; exact hh
  unfold exs_ at hv
  split at hv
  case h_1 k =>
    cases lok_eq hk
    split at hv
    · obtain ⟨l9, h9, e9⟩ := omap_some hv
      cases e9
      obtain ⟨g1, g2⟩ := sto_eq h9
      exact lv_istore hx hb hd hL.has (hlen g1.1) rfl (fun la' hla => one g1 (by intro x z; cases z) vcI g2 (tl rfl) rfl hla)
    · cases hv
  case h_2 k =>
    cases lok_eq hk
    split at hv
    · obtain ⟨l9, h9, e9⟩ := omap_some hv
      cases e9
      obtain ⟨g1, g2⟩ := sto_eq h9
      exact lv_istore_n hx hb hd rfl hL.has (hlen g1.1) rfl (fun la' hla => one g1 (by intro x z; cases z) vcI g2 (tl rfl) rfl hla)
    · cases hv
  case h_3 k =>
    cases lok_eq hk
    split at hv
    · obtain ⟨l9, h9, e9⟩ := omap_some hv
      cases e9
      obtain ⟨g1, g2⟩ := stl_eq h9
      exact lv_lstore hx hb hd hL.has (hlen g1.1) rfl (fun la' hla => two g1 g2 (tl rfl) rfl hla)
    · cases hv
  case h_4 k =>
    cases lok_eq hk
    split at hv
    · obtain ⟨l9, h9, e9⟩ := omap_some hv
      cases e9
      obtain ⟨g1, g2⟩ := stl_eq h9
      exact lv_lstore_n hx hb hd rfl hL.has (hlen g1.1) rfl (fun la' hla => two g1 g2 (tl rfl) rfl hla)
    · cases hv
  case h_5 k =>
    cases lok_eq hk
    split at hv
    · rename_i x r
      obtain ⟨l9, h9, e9⟩ := omap_some hv
      cases e9
      obtain ⟨g1, g2⟩ := sto_eq h9
      cases x with
      | none => exact lv_astoreN hx hb hd hL.has (hlen g1.1) rfl (fun la' hla => one g1 (by intro x z; cases z) (hd1 rfl) g2 (tl rfl) rfl hla)
      | some x => exact lv_astore hx hb hd hL.has (hlen g1.1) rfl (fun la' hla => one g1 (by intro x z; cases z) (hd1 rfl) g2 (tl rfl) rfl hla)
    · cases hv
  case h_6 k =>
    cases lok_eq hk
    split at hv
    · rename_i x r
      obtain ⟨l9, h9, e9⟩ := omap_some hv
      cases e9
      obtain ⟨g1, g2⟩ := sto_eq h9
      cases x with
      | none => exact lv_astore_nN hx hb hd rfl hL.has (hlen g1.1) rfl (fun la' hla => one g1 (by intro x z; cases z) (hd1 rfl) g2 (tl rfl) rfl hla)
      | some x => exact lv_astore_n hx hb hd rfl hL.has (hlen g1.1) rfl (fun la' hla => one g1 (by intro x z; cases z) (hd1 rfl) g2 (tl rfl) rfl hla)
    · cases hv
  case h_7 k n =>
    cases lok_eq hk
    split at hv
    · rename_i x hg
      obtain ⟨l9, h9, e9⟩ := omap_some hv
      cases e9
      obtain ⟨g1, g2⟩ := sto_eq h9
      obtain ⟨j, hj⟩ := List.getElem?_of_mem (lvs_mem (ad := ad) (op := op) (ls := ls) (i := k) (w := .int x) |>.mpr ⟨_, hg, (by intro z; cases z), rfl⟩)
      exact lv_iinc hx hb hd hL.has hj rfl (hlen g1.1) rfl (fun la' hla => one g1 (by intro x z; cases z) vcI g2 hc2 rfl hla)
    · cases hv
  case h_8 => cases hv
theorem tk_eq {pc : Nat} {o : Int} (h : tk_ pc o = true) : (pc : Int) + o = ((tg_ pc o : Nat) : Int) := by
  unfold tk_ at h
  unfold tg_
  rw [Int.toNat_of_nonneg (by simpa using h)]
end PL2
end
section
/-! plain instructions, third part: jumps, constants of the pool -/
section PL3
variable {p : Program} {l : Launch} {e : Env} {R : Room} {s : State} {m : MethodId} {args : Array Value} {below : List Frame} {meth : Method} {c : Code} {dC : Nat → ClassId} {dI : Nat → Nat → Nat} {cy : Nat → ClassId} {op : Value} {B0 L : Nat} {xs : Nat → Int32} {ad0 : Nat → Nat} {n0 s0 : Nat} {Q : State → Prop} {q pc len pc' : Nat} {ls st ls' st' : List AV} {h : AH} {i : Instr} {v : AV}
theorem tkb_eq {o : Option Nat} {a : Nat} (ht : tkb_ o = true) (ha : o = some a) : ∃ k, k < 22 ∧ a = tok_ k := by
  subst ha
  simp only [tkb_, Bool.and_eq_true, decide_eq_true_iff] at ht
  obtain ⟨h1, h2, h3, h4⟩ := ht
  refine ⟨sr_ a - 1, by omega, ?_⟩
  unfold tok_ kd_ sr_ ln_ at *
  omega
theorem rf_inj {ad : Nat → Nat} {x y : Option Nat} (hi : ∀ i j, i < 22 → j < 22 → ad (tok_ i) = ad (tok_ j) → i = j) (hx : tkb_ x = true) (hy : tkb_ y = true) : x.map ad = y.map ad ↔ x = y := by
  constructor
  · intro e9
    cases x with
    | none =>
      cases y with
      | none => rfl
      | some b => cases e9
    | some a =>
      cases y with
      | none => cases e9
      | some b =>
        obtain ⟨k1, g1, r1⟩ := tkb_eq hx rfl
        obtain ⟨k2, g2, r2⟩ := tkb_eq hy rfl
        subst r1 r2
        have := hi k1 k2 g1 g2 (Option.some.inj e9)
        rw [this]
  · intro e9; rw [e9]
theorem sd_exj (C : Cx_ p l R s m args meth c dC dI cy op B0 L xs q) (hd : decode (cod_ q) pc = .ok (i, len)) (hk : lok_ i len = true) (hv : exj_ pc i st = some (pc', st')) (K : Sm_ p l e R s m args below meth c dC dI cy op B0 L xs ad0 n0 s0 Q q pc' ls st' h) : Sm_ p l e R s m args below meth c dC dI cy op B0 L xs ad0 n0 s0 Q q pc ls st h := by
  obtain ⟨⟨hx, hb, hml, ho, ht⟩, hK0, hB, hlk, hrt, hnm, hst⟩ := C
  intro ad la H locs e1 hR hKC hL hc1 hc2 hF hS hn hs
  have go : (∀ w ∈ st', w ∈ st) → W p l e R s m args below meth c H locs (nx_ h - n0) (sl_ h - s0) Q (F0 m pc' la (st'.map (cv_ ad op))) := fun hw => K ad la H locs e1 hR hKC hL hc1 (fun w z => hc2 w (hw w z)) hF hS hn hs
  unfold exj_ at hv
  split at hv
  case h_1 o =>
    cases lok_eq hk
    split at hv
    · rename_i h1; cases hv; exact lv_goto hx hb hd (tk_eq h1) (go (fun w z => z))
    · cases hv
  case h_2 cc o =>
    cases lok_eq hk
    split at hv
    · rename_i x r
      split at hv
      · rename_i h1
        split at hv
        · rename_i hcb
          cases hv
          have k := go (fun w z => List.mem_cons_of_mem _ z)
          cases cc
          · exact lv_if_eq hx hb hd (tk_eq h1) (fun _ => k) (fun z => absurd (of_decide_eq_true hcb) z)
          · exact lv_if_ne hx hb hd (tk_eq h1) (fun _ => k) (fun z => absurd z (of_decide_eq_true hcb))
          · exact lv_if_lt hx hb hd (tk_eq h1) (fun _ => k) (fun z => absurd (of_decide_eq_true hcb) z)
          · exact lv_if_ge hx hb hd (tk_eq h1) (fun _ => k) (fun z => absurd (of_decide_eq_true hcb) z)
          · exact lv_if_gt hx hb hd (tk_eq h1) (fun _ => k) (fun z => absurd (of_decide_eq_true hcb) z)
          · exact lv_if_le hx hb hd (tk_eq h1) (fun _ => k) (fun z => absurd (of_decide_eq_true hcb) z)
        · rename_i hcb
          cases hv
          have k := go (fun w z => List.mem_cons_of_mem _ z)
          have hcb' : cb_ cc x 0 = false := by simpa using hcb
          cases cc
          · exact lv_if_eq hx hb hd (tk_eq h1) (fun z => absurd z (of_decide_eq_false hcb')) (fun _ => k)
          · exact lv_if_ne hx hb hd (tk_eq h1) (fun z => absurd z (of_decide_eq_false hcb')) (fun _ => k)
          · exact lv_if_lt hx hb hd (tk_eq h1) (fun z => absurd z (of_decide_eq_false hcb')) (fun _ => k)
          · exact lv_if_ge hx hb hd (tk_eq h1) (fun z => absurd z (of_decide_eq_false hcb')) (fun _ => k)
          · exact lv_if_gt hx hb hd (tk_eq h1) (fun z => absurd z (of_decide_eq_false hcb')) (fun _ => k)
          · exact lv_if_le hx hb hd (tk_eq h1) (fun z => absurd z (of_decide_eq_false hcb')) (fun _ => k)
      · cases hv
    · cases hv
  case h_3 cc o =>
    cases lok_eq hk
    split at hv
    · rename_i y x r
      split at hv
      · rename_i h1
        split at hv
        · rename_i hcb
          cases hv
          have k := go (fun w z => List.mem_cons_of_mem _ (List.mem_cons_of_mem _ z))
          cases cc
          · exact lv_icmp_eq hx hb hd (tk_eq h1) (fun _ => k) (fun z => absurd (of_decide_eq_true hcb) z)
          · exact lv_icmp_ne hx hb hd (tk_eq h1) (fun _ => k) (fun z => absurd z (of_decide_eq_true hcb))
          · exact lv_icmp_lt hx hb hd (tk_eq h1) (fun _ => k) (fun z => absurd (of_decide_eq_true hcb) z)
          · exact lv_icmp_ge hx hb hd (tk_eq h1) (fun _ => k) (fun z => absurd (of_decide_eq_true hcb) z)
          · exact lv_icmp_gt hx hb hd (tk_eq h1) (fun _ => k) (fun z => absurd (of_decide_eq_true hcb) z)
          · exact lv_icmp_le hx hb hd (tk_eq h1) (fun _ => k) (fun z => absurd (of_decide_eq_true hcb) z)
        · rename_i hcb
          cases hv
          have k := go (fun w z => List.mem_cons_of_mem _ (List.mem_cons_of_mem _ z))
          have hcb' : cb_ cc x y = false := by simpa using hcb
          cases cc
          · exact lv_icmp_eq hx hb hd (tk_eq h1) (fun z => absurd z (of_decide_eq_false hcb')) (fun _ => k)
          · exact lv_icmp_ne hx hb hd (tk_eq h1) (fun z => absurd z (of_decide_eq_false hcb')) (fun _ => k)
          · exact lv_icmp_lt hx hb hd (tk_eq h1) (fun z => absurd z (of_decide_eq_false hcb')) (fun _ => k)
          · exact lv_icmp_ge hx hb hd (tk_eq h1) (fun z => absurd z (of_decide_eq_false hcb')) (fun _ => k)
          · exact lv_icmp_gt hx hb hd (tk_eq h1) (fun z => absurd z (of_decide_eq_false hcb')) (fun _ => k)
          · exact lv_icmp_le hx hb hd (tk_eq h1) (fun z => absurd z (of_decide_eq_false hcb')) (fun _ => k)
      · cases hv
    · cases hv
  case h_4 o =>
    cases lok_eq hk
    split at hv
    · rename_i x r
      split at hv
      · rename_i h1
        split at hv
        · rename_i hx0
          cases hv
          subst hx0
          exact lv_ifnullN hx hb hd (tk_eq h1) (go (fun w z => List.mem_cons_of_mem _ z))
        · rename_i hx0
          cases hv
          cases x with
          | none => exact absurd rfl hx0
          | some x => exact lv_ifnull hx hb hd (go (fun w z => List.mem_cons_of_mem _ z))
      · cases hv
    · cases hv
  case h_5 o =>
    cases lok_eq hk
    split at hv
    · rename_i x r
      split at hv
      · rename_i h1
        split at hv
        · rename_i hx0
          cases hv
          subst hx0
          exact lv_ifnonnullN hx hb hd (go (fun w z => List.mem_cons_of_mem _ z))
        · rename_i hx0
          cases hv
          cases x with
          | none => exact absurd rfl hx0
          | some x => exact lv_ifnonnull hx hb hd (tk_eq h1) (go (fun w z => List.mem_cons_of_mem _ z))
      · cases hv
    · cases hv
  case h_6 cc o =>
    cases lok_eq hk
    split at hv
    · rename_i y x r
      split at hv
      · rename_i h1
        have inj := rf_inj hKC.2.2.1 h1.1 h1.2.1
        split at hv
        · rename_i hcb
          cases hv
          have k := go (fun w z => List.mem_cons_of_mem _ (List.mem_cons_of_mem _ z))
          cases cc
          · exact lv_acmp_eq hx hb hd (tk_eq h1.2.2) (fun _ => k) (fun z => absurd (inj.mpr (of_decide_eq_true hcb)) z)
          · exact lv_acmp_ne hx hb hd (tk_eq h1.2.2) (fun _ => k) (fun z => absurd (inj.mp z) (of_decide_eq_true hcb))
        · rename_i hcb
          cases hv
          have k := go (fun w z => List.mem_cons_of_mem _ (List.mem_cons_of_mem _ z))
          have hcb' : ca_ cc x y = false := by simpa using hcb
          cases cc
          · exact lv_acmp_eq hx hb hd (tk_eq h1.2.2) (fun z => absurd (inj.mp z) (of_decide_eq_false hcb')) (fun _ => k)
          · exact lv_acmp_ne hx hb hd (tk_eq h1.2.2) (fun z => absurd (show ¬ x = y from fun q9 => z (inj.mpr q9)) (of_decide_eq_false hcb')) (fun _ => k)
      · cases hv
    · cases hv
  case h_7 dl lo hi os =>
    split at hv
    · rename_i x r
      split at hv
      · rename_i h1
        split at hv
        · rename_i h2
          cases hv
          exact lv_tableOut hx hb hd h1 (tk_eq h2) (go (fun w z => List.mem_cons_of_mem _ z))
        · cases hv
      · rename_i h1
        split at hv
        · rename_i o9 h9
          split at hv
          · rename_i h2
            cases hv
            exact lv_tableIn hx hb hd (fun z => h1 (Or.inl z)) (fun z => h1 (Or.inr z)) h9 (tk_eq h2) (go (fun w z => List.mem_cons_of_mem _ z))
          · cases hv
        · cases hv
    · cases hv
  case h_8 => cases hv
theorem va_ldcSw (hexec : p.tables.exec = Jvm.exec) {cc : ByteArray} {la : Array Slot} {rest : List Value} {H : Heap} {locs : List Loc} {cells slots : Nat} (hb : c.code = cc) {own tx : String} {index q : Nat} (hown : s.vm.findClass own = some m.cls) (hZ : vk_R own index tx q s) (hdg : decode cc pc = .ok (.ldc_w index, 3))
    (k : W p l e R s m args below meth c H locs cells slots Q (F0 m (pc + 3) la (.ref q :: rest))) : W p l e R s m args below meth c H locs cells slots Q (F0 m pc la rest) := by
  intro T hT X
  obtain ⟨t, a1, b1⟩ := k T hT X
  exact ⟨t, X.ldcStringW hexec hown (text := tx) (a := q) hZ.1 hZ.2 (g := F0 m pc la rest) rfl (by rw [hb]; exact hdg) t a1, b1⟩
theorem gw_ {w : Cond} {j : Nat} (ht : ∀ w ∈ gtb_, w.before args s = true) (h1 : lw_tbl[j]? = some w) (hg : goodWord w = true) : w.before args s = true := ht w (wd_ h1 hg)
theorem kap_lt {q : Nat} (hq : q < 200) : kap_ q < 18 := by
  have h := List.all_eq_true.mp okE_ q (List.mem_range.mpr hq)
  by_cases h0 : q = 178
  · subst h0; decide +kernel
  · simp only [Bool.or_eq_true, beq_iff_eq, h0, false_or, ckE_, Bool.and_eq_true, decide_eq_true_iff] at h
    exact h.2.2.2
theorem kst_mem {k x : Nat} {e9 : AV × Nat × Nat} (hk : k < 18) (h9 : kst_ k x = some e9) : ckk_ k (x, e9) = true := pool_all okk_ hk h9
theorem str_rtb : (kpl_.getD 8 []).all (fun q => q.2.2.2 != 2 || rtb_.any (fun r => r.1 == clnm_ 8 && r.2.1 == q.1 && decide (q.2.1 = vA (some r.2.2.2)) && decide (32 ≤ kd_ r.2.2.2) && decide (r.2.2.2 ∈ strs_) && decide (sr_ r.2.2.2 < 96))) = true := by decide +kernel
theorem stb_vc : stb_.all (fun q => match q.2.2.2 with | .inr (.inr (.inl (some b))) => (decide (32 ≤ kd_ b) && (decide (b ∈ (List.range 22).map tok_) || decide (b = tka_))) | _ => true) = true := by decide +kernel
theorem cid_tok {k : Nat} (hk : k < 22) : tok_ k ∈ cids_ L := by
  unfold cids_
  exact List.mem_cons_of_mem _ (List.mem_append_left _ (List.mem_map.mpr ⟨k, List.mem_range.mpr hk, rfl⟩))
theorem cid_tka : tka_ ∈ cids_ L := by
  unfold cids_
  exact List.mem_cons_of_mem _ (List.mem_append_right _ List.mem_cons_self)
theorem cid_str {b : Nat} (hb : b ∈ strs_) : b ∈ cids_ L := by
  unfold cids_
  exact List.mem_cons_of_mem _ (List.mem_append_right _ (List.mem_cons_of_mem _ (List.mem_append_left _ hb)))
theorem cid_byt {b : Nat} (hb : b ∈ byts_) : b ∈ cids_ L := by
  unfold cids_
  exact List.mem_cons_of_mem _ (List.mem_append_right _ (List.mem_cons_of_mem _ (List.mem_append_right _ hb)))
theorem obind_some {α β : Type} {o : Option α} {f : α → Option β} {r : β} (h : o.bind f = some r) : ∃ a, o = some a ∧ f a = some r := by
  cases o with
  | none => cases h
  | some a => exact ⟨a, rfl, h⟩
theorem ki_eq {e9 : AV × Nat × Nat} (hv : ki_ e9 = some v) : (∃ y j9, e9 = (.inl y, j9, 0) ∧ v = .inl y) ∨ ∃ j9, e9 = (v, j9, 2) := by
  obtain ⟨w, j9, z9⟩ := e9
  unfold ki_ at hv
  dsimp only at hv
  split at hv
  · rename_i h1
    cases hv
    subst h1
    exact Or.inr ⟨j9, rfl⟩
  · split at hv
    · rename_i h1
      subst h1
      split at hv
      · cases hv
        exact Or.inl ⟨_, j9, rfl, rfl⟩
      · cases hv
    · cases hv
theorem kj_eq {e9 : AV × Nat × Nat} (hv : kj_ e9 = some v) : ∃ y j9, e9 = (.inr (.inl y), j9, 0) ∧ v = .inr (.inl y) := by
  obtain ⟨w, j9, z9⟩ := e9
  unfold kj_ at hv
  dsimp only at hv
  split at hv
  · rename_i h1
    subst h1
    split at hv
    · cases hv
      exact ⟨_, j9, rfl, rfl⟩
    · cases hv
  · cases hv
theorem ki_vc {e9 : AV × Nat × Nat} (h1 : vc_ L h e9.1) (hv : ki_ e9 = some v) : vc_ L h v := by
  rcases ki_eq hv with ⟨y, j9, rfl, rfl⟩ | ⟨j9, rfl⟩
  · exact vcI
  · exact h1
theorem str_of {k x j9 : Nat} (hk : k < 18) (h9 : kst_ k x = some (v, j9, 2)) : k = 8 ∧ ∃ r, r ∈ rtb_ ∧ r.1 = clnm_ 8 ∧ r.2.1 = x ∧ v = vA (some r.2.2.2) := by
  have hc := kst_mem hk h9
  have h8 : k = 8 := of_decide_eq_true hc
  subst h8
  have h5 := List.all_eq_true.mp str_rtb _ (lookup_mem h9)
  simp only [bne_self_eq_false, Bool.false_or] at h5
  obtain ⟨r, hr, hr2⟩ := List.any_eq_true.mp h5
  simp only [Bool.and_eq_true, decide_eq_true_iff, beq_iff_eq] at hr2
  exact ⟨rfl, r, hr, hr2.1.1.1.1.1, hr2.1.1.1.1.2, hr2.1.1.1.2⟩
theorem sd_exk (C : Cx_ p l R s m args meth c dC dI cy op B0 L xs q) (hd : decode (cod_ q) pc = .ok (i, len)) (hk : lok_ i len = true) (hv : exk_ (kap_ q) i = some v) (K : Sm_ p l e R s m args below meth c dC dI cy op B0 L xs ad0 n0 s0 Q q (pc + len) ls (v :: st) h) : Sm_ p l e R s m args below meth c dC dI cy op B0 L xs ad0 n0 s0 Q q pc ls st h := by
  obtain ⟨⟨hx, hb, hml, ho, ht⟩, hK0, ⟨hB, hL4, hq200⟩, hlk, hrt, hnm, hst⟩ := C
  intro ad la H locs e1 hR hKC hL hc1 hc2 hF hS hn hs
  have hkl := kap_lt hq200
  have one : ∀ {x : Nat} {e9 : AV × Nat × Nat}, kst_ (kap_ q) x = some e9 → vc_ L h e9.1 := by
    intro x e9 h9 b hb9
    have hc := kst_mem hkl h9
    obtain ⟨v9, j9, z9⟩ := e9
    dsimp only at hb9
    subst hb9
    unfold ckk_ at hc
    dsimp only at hc
    split at hc
    · cases hc
    · obtain ⟨r, hr, hr2⟩ := List.any_eq_true.mp hc
      simp only [Bool.and_eq_true, decide_eq_true_iff] at hr2
      have h5 := List.all_eq_true.mp stb_vc r hr
      have h6 := List.all_eq_true.mp stb_sr r hr
      rw [hr2.2] at h5 h6
      simp only [Bool.and_eq_true, Bool.or_eq_true, decide_eq_true_iff] at h5 h6
      refine ⟨Nat.lt_of_lt_of_le h6 hR.2.2.2.2.2, fun z => by omega, fun _ => Or.inr ?_⟩
      rcases h5.2 with h7 | h7
      · obtain ⟨k9, g1, g2⟩ := List.mem_map.mp h7
        rw [← g2]
        exact cid_tok (List.mem_range.mp g1)
      · rw [h7]; exact cid_tka
    · have h8 : kap_ q = 8 := of_decide_eq_true hc
      rw [h8] at h9
      have h5 := List.all_eq_true.mp str_rtb _ (lookup_mem h9)
      simp only [bne_self_eq_false, Bool.false_or] at h5
      obtain ⟨r, hr, hr2⟩ := List.any_eq_true.mp h5
      simp only [Bool.and_eq_true, decide_eq_true_iff] at hr2
      obtain ⟨⟨⟨⟨_, hva⟩, hkd⟩, hst9⟩, hsr⟩ := hr2
      cases hva
      exact ⟨Nat.lt_of_lt_of_le hsr hR.2.2.2.2.2, fun z => by omega, fun _ => Or.inr (cid_str hst9)⟩
    · cases hc
  unfold exk_ at hv
  split at hv
  case h_1 x =>
    cases lok_eq hk
    obtain ⟨e9, h9, hv⟩ := obind_some hv
    have k := K ad la H locs e1 hR hKC hL hc1 (all_cons (ki_vc (one h9) hv) hc2) hF hS hn hs
    rcases ki_eq hv with ⟨y, j9, rfl, rfl⟩ | ⟨j9, rfl⟩
    · exact lv_ldc hx hb ho (gw_ ht (of_decide_eq_true (kst_mem hkl h9)) rfl) hd k
    · obtain ⟨h8, r, hr, g1, g2, rfl⟩ := str_of hkl h9
      have hz := hKC.2.1.1 r hr
      rw [g1, g2] at hz
      rw [h8] at ho
      exact va_ldcS hx hb ho hz hd k
  case h_2 x =>
    cases lok_eq hk
    obtain ⟨e9, h9, hv⟩ := obind_some hv
    have k := K ad la H locs e1 hR hKC hL hc1 (all_cons (ki_vc (one h9) hv) hc2) hF hS hn hs
    rcases ki_eq hv with ⟨y, j9, rfl, rfl⟩ | ⟨j9, rfl⟩
    · exact lv_ldcw hx hb ho (gw_ ht (of_decide_eq_true (kst_mem hkl h9)) rfl) hd k
    · obtain ⟨h8, r, hr, g1, g2, rfl⟩ := str_of hkl h9
      have hz := hKC.2.1.1 r hr
      rw [g1, g2] at hz
      rw [h8] at ho
      exact va_ldcSw hx hb ho hz hd k
  case h_3 x =>
    cases lok_eq hk
    obtain ⟨e9, h9, hv⟩ := obind_some hv
    obtain ⟨y, j9, rfl, rfl⟩ := kj_eq hv
    have k := K ad la H locs e1 hR hKC hL hc1 (all_cons vcJ hc2) hF hS hn hs
    exact lv_ldc2 hx hb ho (gw_ ht (of_decide_eq_true (kst_mem hkl h9)) rfl) hd k
  case h_4 x =>
    cases lok_eq hk
    obtain ⟨e9, h9, hv⟩ := obind_some hv
    obtain ⟨v9, j9, z9⟩ := e9
    dsimp only at hv
    split at hv
    · rename_i hz1
      cases hv
      subst hz1
      have k := K ad la H locs e1 hR hKC hL hc1 (all_cons (one h9) hc2) hF hS hn hs
      obtain ⟨r, hr, hr2⟩ := List.any_eq_true.mp (kst_mem hkl h9)
      simp only [Bool.and_eq_true, decide_eq_true_iff] at hr2
      have hz := hKC.1.1 r hr
      rw [hr2.2] at hz
      exact va_gets hx hb hz hS ho (gw_ ht hr2.1 rfl) (fun _ z => z) hd k
    · cases hv
  case h_5 => cases hv
end PL3
end
section
/-! the heap: fields, rows, new cells -/
def lyi_ : List (List Nat) := [[308, 310, 312, 314, 316, 318], [222, 224, 226, 228, 230, 232], [114, 116, 118, 120], [161, 163, 165, 167, 169], [363, 365, 367, 369, 371, 373, 375, 377, 379, 381], [187, 189, 191, 193, 195, 197, 199], [138, 140, 142, 144, 146], [249, 251, 253, 255, 257, 259, 261, 263, 265, 267, 269, 271, 273, 275], [1003, 1005, 1007, 1009, 1011, 1013, 1015, 1017, 1019, 1021, 1023, 1025, 1027, 1029, 1031, 1033, 1035, 1037, 1039, 1041, 1043, 1045, 1047, 1049, 1051, 1053, 1055, 1057, 1059, 1061, 1063, 1065, 1067, 1069, 1071, 1073, 1075, 1077, 1079, 1081, 1083, 1085, 1087, 1089, 1091, 1093, 1095, 1097, 1099, 1101, 1103, 1105, 1107, 1109, 1111, 1113, 1115, 1117, 1119, 1121, 1123]]
def inw_ : List (Nat × Nat) := [(290, 77), (204, 75), (105, 71), (150, 73), (340, 78), (173, 74), (126, 72), (93, 70), (937, 76)]
theorem lay_ck : (List.range 9).all (fun k => (List.range (nfl_ k)).all (fun p => decide (lw_tbl[(lyi_.getD k []).getD p 0]? = some (u_lay (clnm_ k) (T_ k) p)) && goodWord (u_lay (clnm_ k) (T_ k) p))) = true := by decide +kernel
theorem inw_ck : (List.range 9).all (fun k => decide (lw_tbl[(inw_.getD k (0, 0)).1]? = some (.instantiable (clnm_ k) (nfl_ k))) && decide (lw_tbl[(inw_.getD k (0, 0)).2]? = some (.initialized (clnm_ k)))) = true := by decide +kernel
theorem arr_ck : (decide (lw_tbl[124]? = some (.arrayClass .int)) && (decide (lw_tbl[202]? = some (.arrayClass .byte)) && (decide (lw_tbl[1126]? = some (.arrayClass .boolean)) && decide (lw_tbl[123]? = some (.arrayClass .long))))) = true := by decide +kernel
theorem vw_at {k : Nat} (hk : k < 9) : vwCl[k]? = some (clnm_ k, T_ k, nfl_ k) := by
  rcases (show k = 0 ∨ k = 1 ∨ k = 2 ∨ k = 3 ∨ k = 4 ∨ k = 5 ∨ k = 6 ∨ k = 7 ∨ k = 8 by omega) with rfl | rfl | rfl | rfl | rfl | rfl | rfl | rfl | rfl <;> rfl
theorem lay_in {k : Nat} (hk : k < 9) : ∀ w ∈ u_ws (clnm_ k) (T_ k) (nfl_ k), w ∈ gtb_ := by
  intro w hw
  obtain ⟨p, hp, rfl⟩ := List.mem_map.mp hw
  have h := List.all_eq_true.mp (List.all_eq_true.mp lay_ck k (List.mem_range.mpr hk)) p hp
  rw [Bool.and_eq_true, decide_eq_true_iff] at h
  exact wd_ h.1 h.2
theorem nm_ok {k : Nat} (hk : k < 9) : ∀ a, a < nfl_ k → ∀ b, b < nfl_ k → a ≠ b → (T_ k a).2.1 ≠ (T_ k b).2.1 := by
  rcases (show k = 0 ∨ k = 1 ∨ k = 2 ∨ k = 3 ∨ k = 4 ∨ k = 5 ∨ k = 6 ∨ k = 7 ∨ k = 8 by omega) with rfl | rfl | rfl | rfl | rfl | rfl | rfl | rfl | rfl
  · exact nmX0
  · exact nmX1
  · exact nmX2
  · exact nmX3
  · exact nmX4
  · exact nmX5
  · exact nmX7
  · exact nmX8
  · exact nmX9
def ty_ (k p : Nat) : FieldType := (parseFieldDescriptor (T_ k p).2.2.1).getD .int
theorem fT_spec {t : Nat} {d : String} (h : fT_ t d = true) : (t = 0 ∧ parseFieldDescriptor d = some .int) ∨ (t = 1 ∧ parseFieldDescriptor d = some .long) ∨ (t = 2 ∧ ∃ ty, parseFieldDescriptor d = some ty ∧ ((∃ n, ty = .object n) ∨ ∃ u, ty = .array u)) ∨ (t = 3 ∧ parseFieldDescriptor d = some .boolean) ∨ (t = 4 ∧ parseFieldDescriptor d = some .byte) := by
  unfold fT_ at h
  split at h
  · rename_i e1; exact Or.inl ⟨rfl, e1⟩
  · rename_i e1; exact Or.inr (Or.inl ⟨rfl, e1⟩)
  · rename_i n e1; exact Or.inr (Or.inr (Or.inl ⟨rfl, _, e1, Or.inl ⟨n, rfl⟩⟩))
  · rename_i n e1; exact Or.inr (Or.inr (Or.inl ⟨rfl, _, e1, Or.inr ⟨n, rfl⟩⟩))
  · rename_i e1; exact Or.inr (Or.inr (Or.inr (Or.inl ⟨rfl, e1⟩)))
  · rename_i e1; exact Or.inr (Or.inr (Or.inr (Or.inr ⟨rfl, e1⟩)))
  · cases h
theorem ft_ok {k p : Nat} (hk : k < 9) (hp : p < nfl_ k) : fT_ (ft_ k p) (T_ k p).2.2.1 = true := List.all_eq_true.mp (List.all_eq_true.mp okt_ k (List.mem_range.mpr hk)) p (List.mem_range.mpr hp)
theorem ty_ok {k : Nat} (hk : k < 9) : ∀ p, p < nfl_ k → parseFieldDescriptor (T_ k p).2.2.1 = some (ty_ k p) := by
  intro p hp
  unfold ty_
  rcases fT_spec (ft_ok hk hp) with ⟨-, e1⟩ | ⟨-, e1⟩ | ⟨-, ty, e1, -⟩ | ⟨-, e1⟩ | ⟨-, e1⟩ <;> rw [e1] <;> rfl
theorem pic_at {cy : Nat → ClassId} {ad : Nat → Nat} {h : AH} {a : Nat} (ha : a ∈ ids_ h) : ∃ k : Nat, (ids_ h)[k]? = some a ∧ (pc_ cy ad h)[k]? = some (ad a, ce_ cy ad h a) := by
  obtain ⟨k, hk⟩ := List.getElem?_of_mem ha
  exact ⟨k, hk, by unfold pc_; rw [List.getElem?_map, hk]; rfl⟩
theorem pic_set {cy : Nat → ClassId} {ad : Nat → Nat} {h h' : AH} {a k : Nat} (hid : ids_ h' = ids_ h) (hnd : (ids_ h).Nodup) (hk : (ids_ h)[k]? = some a) (hne : ∀ b, b ≠ a → ce_ cy ad h' b = ce_ cy ad h b) : (pc_ cy ad h).set k (ad a, ce_ cy ad h' a) = pc_ cy ad h' := by
  apply List.ext_getElem?
  intro j
  unfold pc_
  rw [hid, List.getElem?_set, List.getElem?_map, List.length_map, List.getElem?_map]
  split
  · rename_i e9
    subst e9
    rw [if_pos (List.getElem?_eq_some_iff.mp hk).1, hk]
    rfl
  · rename_i e9
    cases hj : (ids_ h)[j]? with
    | none => rfl
    | some b =>
      have hb : b ≠ a := by
        intro z
        subst z
        exact e9 ((List.getElem?_inj (List.getElem?_eq_some_iff.mp hk).1 hnd).mp (hk.trans hj.symm))
      show some (ad b, ce_ cy ad h b) = some (ad b, ce_ cy ad h' b)
      rw [hne b hb]
theorem fs_len {ad : Nat → Nat} {h : AH} {a : Nat} : (fs_ ad h a).length = nfl_ (kd_ a) := by unfold fs_; rw [List.length_map, List.length_range]
theorem fs_at {ad : Nat → Nat} {h : AH} {a p : Nat} (hp : p < nfl_ (kd_ a)) : (fs_ ad h a)[p]? = some (if ft_ (kd_ a) p = 1 then .long (hL_ h a p) else if ft_ (kd_ a) p = 2 then va_rf ((hR_ h a p).map ad) else .int (hI_ h a p)) := by
  unfold fs_
  rw [List.getElem?_map, List.getElem?_range hp]
  rfl
theorem fs_set {ad : Nat → Nat} {h h' : AH} {a p : Nat} {w : Value} (hw : w = (if ft_ (kd_ a) p = 1 then .long (hL_ h' a p) else if ft_ (kd_ a) p = 2 then va_rf ((hR_ h' a p).map ad) else .int (hI_ h' a p)))
    (hI : ∀ j, j ≠ p → hI_ h' a j = hI_ h a j) (hL : ∀ j, j ≠ p → hL_ h' a j = hL_ h a j) (hR : ∀ j, j ≠ p → hR_ h' a j = hR_ h a j) : (fs_ ad h a).set p w = fs_ ad h' a := by
  apply List.ext_getElem?
  intro j
  by_cases hj : j < nfl_ (kd_ a)
  · rw [List.getElem?_set, fs_at hj, fs_at hj, fs_len]
    split
    · rename_i e9
      subst e9
      rw [if_pos hj, hw]
    · rename_i e9
      rw [hI j (Ne.symm e9), hL j (Ne.symm e9), hR j (Ne.symm e9)]
  · rw [List.getElem?_eq_none (by rw [List.length_set, fs_len]; omega), List.getElem?_eq_none (by rw [fs_len]; omega)]
theorem vA_inj {o : Option Nat} {b : Nat} (h : (Sum.inr (Sum.inr (Sum.inl o)) : AV) = .inr (.inr (.inl (some b)))) : o = some b := by
  injection h with h
  injection h with h
  injection h
section HP
variable {p : Program} {l : Launch} {e : Env} {R : Room} {s : State} {m : MethodId} {args : Array Value} {below : List Frame} {meth : Method} {c : Code} {dC : Nat → ClassId} {dI : Nat → Nat → Nat} {cy : Nat → ClassId} {op : Value} {B0 L : Nat} {xs : Nat → Int32} {ad0 : Nat → Nat} {n0 s0 : Nat} {Q : State → Prop} {q pc len pc' : Nat} {ls st ls' st' : List AV} {h h' : AH} {i : Instr} {v : AV}
theorem fld_mem {k x : Nat} {e9 : Nat × Nat × Nat × Nat} (hk : k < 18) (h9 : fld_ k x = some e9) : ckf_ k (x, e9) = true := pool_all okf_ hk h9
theorem fld_own {k x kk pl t j : Nat} (hk : k < 18) (h9 : fld_ k x = some (kk, pl, t, j)) (hkk : kk < 16) : kk < 9 ∧ pl < nfl_ kk ∧ ft_ kk pl = t ∧ fT_ t (T_ kk pl).2.2.1 = true ∧ lw_tbl[j]? = some (.fieldLink (clnm_ k) x (T_ kk pl).1 (T_ kk pl).2.1 (T_ kk pl).2.2.1) ∧ (T_ kk pl).1 = clnm_ kk := by
  have hc := fld_mem hk h9
  unfold ckf_ at hc
  dsimp only at hc
  rw [if_pos hkk] at hc
  simp only [Bool.and_eq_true, decide_eq_true_iff] at hc
  exact ⟨hc.1, hc.2.1, hc.2.2.1, hc.2.2.2.1, hc.2.2.2.2.1, hc.2.2.2.2.2⟩
theorem ids_of {a : Nat} (hv : vl_ L h a) (hk : kd_ a < 16) : a ∈ ids_ h := hv.2.1 (by omega)
theorem tokC {a : Nat} (hv : vl_ L h a) (hk : kd_ a = 32) (hL4 : L < 4096) : ∃ k, k < 22 ∧ a = tok_ k := by
  rcases hv.2.2 (by omega) with h1 | h1
  · omega
  · unfold cids_ at h1
    rcases List.mem_cons.mp h1 with h2 | h2
    · rw [h2] at hk; unfold kd_ scr_ at hk; omega
    · rcases List.mem_append.mp h2 with h3 | h3
      · obtain ⟨k, g1, g2⟩ := List.mem_map.mp h3
        exact ⟨k, List.mem_range.mp g1, g2.symm⟩
      · exfalso
        have hall : (tka_ :: (strs_ ++ byts_)).all (fun b => kd_ b != 32) = true := by decide +kernel
        have := List.all_eq_true.mp hall a h3
        simp [hk] at this
theorem strC {a : Nat} (hv : vl_ L h a) (hk : kd_ a = 33) : a ∈ strs_ := by
  rcases hv.2.2 (by omega) with h1 | h1
  · omega
  · unfold cids_ at h1
    rcases List.mem_cons.mp h1 with h2 | h2
    · rw [h2] at hk; unfold kd_ scr_ at hk; omega
    · rcases List.mem_append.mp h2 with h3 | h3
      · obtain ⟨k, g1, g2⟩ := List.mem_map.mp h3
        rw [← g2] at hk; unfold kd_ tok_ at hk; omega
      · rcases List.mem_cons.mp h3 with h4 | h4
        · rw [h4] at hk; exact absurd hk (by decide +kernel)
        · rcases List.mem_append.mp h4 with h5 | h5
          · exact h5
          · exfalso
            have hall : byts_.all (fun b => kd_ b != 33) = true := by decide +kernel
            have := List.all_eq_true.mp hall a h5
            simp [hk] at this
theorem bytC {a : Nat} (hv : vl_ L h a) (hk : kd_ a = 34) : a ∈ byts_ := by
  rcases hv.2.2 (by omega) with h1 | h1
  · omega
  · unfold cids_ at h1
    rcases List.mem_cons.mp h1 with h2 | h2
    · rw [h2] at hk; unfold kd_ scr_ at hk; omega
    · rcases List.mem_append.mp h2 with h3 | h3
      · obtain ⟨k, g1, g2⟩ := List.mem_map.mp h3
        rw [← g2] at hk; unfold kd_ tok_ at hk; omega
      · rcases List.mem_cons.mp h3 with h4 | h4
        · rw [h4] at hk; exact absurd hk (by decide +kernel)
        · rcases List.mem_append.mp h4 with h5 | h5
          · exfalso
            have hall : strs_.all (fun b => kd_ b != 34) = true := by decide +kernel
            have := List.all_eq_true.mp hall a h5
            simp [hk] at this
          · exact h5
theorem scrC {a : Nat} (hv : vl_ L h a) (hk : kd_ a = 36) : a = scr_ L := by
  rcases hv.2.2 (by omega) with h1 | h1
  · omega
  · unfold cids_ at h1
    rcases List.mem_cons.mp h1 with h2 | h2
    · exact h2
    · rcases List.mem_append.mp h2 with h3 | h3
      · obtain ⟨k, g1, g2⟩ := List.mem_map.mp h3
        rw [← g2] at hk; unfold kd_ tok_ at hk; omega
      · exfalso
        have hall : (tka_ :: (strs_ ++ byts_)).all (fun b => kd_ b != 36) = true := by decide +kernel
        have := List.all_eq_true.mp hall a h3
        simp [hk] at this
theorem tkaC {a : Nat} (hv : vl_ L h a) (hk : kd_ a = 35) : a = tka_ := by
  rcases hv.2.2 (by omega) with h1 | h1
  · omega
  · unfold cids_ at h1
    rcases List.mem_cons.mp h1 with h2 | h2
    · rw [h2] at hk; unfold kd_ scr_ at hk; omega
    · rcases List.mem_append.mp h2 with h3 | h3
      · obtain ⟨k, g1, g2⟩ := List.mem_map.mp h3
        rw [← g2] at hk; unfold kd_ tok_ at hk; omega
      · rcases List.mem_cons.mp h3 with h4 | h4
        · exact h4
        · exfalso
          have hall : (strs_ ++ byts_).all (fun b => kd_ b != 35) = true := by decide +kernel
          have := List.all_eq_true.mp hall a h4
          simp [hk] at this
theorem cR_vl : ((List.range 22).all (fun k => match cR_ (tok_ k) 1 with | some b => decide (b ∈ strs_) && decide (kd_ b = 33) | none => false)) = true := by decide +kernel
theorem cR_vs : (strs_.all (fun a => match cR_ a 0 with | some b => decide (b ∈ byts_) && decide (kd_ b = 34) | none => false)) = true := by decide +kernel
theorem vl_str {b : Nat} (hn : 96 ≤ nx_ h) (hb : b ∈ strs_) (hk : kd_ b = 33) : vl_ L h b := by
  have h1 := List.all_eq_true.mp strs_sr b hb
  rw [Bool.and_eq_true, decide_eq_true_iff] at h1
  exact ⟨by omega, fun z => by omega, fun _ => Or.inr (cid_str hb)⟩
theorem vl_byt {b : Nat} (hn : 96 ≤ nx_ h) (hb : b ∈ byts_) (hk : kd_ b = 34) : vl_ L h b := by
  have h1 : sr_ b < 96 := by simpa using List.all_eq_true.mp byts_sr b hb
  exact ⟨by omega, fun z => by omega, fun _ => Or.inr (cid_byt hb)⟩
theorem vl_tok {k : Nat} (hn : 96 ≤ nx_ h) (hk : k < 22) : vl_ L h (tok_ k) := by
  refine ⟨?_, fun z => ?_, fun _ => Or.inr (cid_tok hk)⟩
  · unfold sr_ tok_; omega
  · unfold kd_ tok_ at z; omega
/-- getfield -/
theorem sd_get {x : Nat} (C : Cx_ p l R s m args meth c dC dI cy op B0 L xs q) (hd : decode (cod_ q) pc = .ok (.getfield x, 3)) {ini : Bool} (hv : exh_ xs (kap_ q) ini (.getfield x) st h = some (st', h')) (K : Sm_ p l e R s m args below meth c dC dI cy op B0 L xs ad0 n0 s0 Q q (pc + 3) ls st' h') : Sm_ p l e R s m args below meth c dC dI cy op B0 L xs ad0 n0 s0 Q q pc ls st h := by
  obtain ⟨⟨hx, hb, hml, ho, ht⟩, hK0, ⟨hB, hL4, hq200⟩, hlk, hrt, hnm, hst⟩ := C
  intro ad la H locs e1 hR hKC hL hc1 hc2 hF hS hn hs
  unfold exh_ at hv
  dsimp only at hv
  split at hv
  · rename_i e9 kk pl t j a r hf
    split at hv
    · rename_i hkd
      have hva : vl_ L h a := hc2 _ List.mem_cons_self a rfl
      have hcr : ∀ w ∈ r, vc_ L h w := fun w hw => hc2 w (List.mem_cons_of_mem _ hw)
      split at hv
      · rename_i hk16
        obtain ⟨h9, hpl, hft, hfT, hlk2, hcl⟩ := fld_own (kap_lt hq200) hf hk16
        have hkd' := hkd
        obtain ⟨k, hk1, hk2⟩ := pic_at (cy := cy) (ad := ad) (ids_of hva (by omega))
        have hce : ce_ cy ad h a = .inr (kk, fs_ ad h a) := by unfold ce_; rw [if_pos (by omega), hkd]
        rw [hce] at hk2
        have hval : (fs_ ad h a)[pl]? = _ := fs_at (by rw [hkd]; exact hpl)
        rw [hkd, hft] at hval
        have fin : ∀ {w : AV}, (fs_ ad h a)[pl]? = some (cv_ ad op w) → vc_ L h w → (st', h') = (w :: r, h) → W p l e R s m args below meth c H locs (nx_ h - n0) (sl_ h - s0) Q (F0 m pc la (((.inr (.inr (.inl (some a))) :: r) : List AV).map (cv_ ad op))) := by
          intro w hw hvw heq
          cases heq
          exact va_get hx hb ht (lay_in h9) ho hK0 hR.1 k hk2 (vw_at h9) pl hpl (gw_ ht hlk2 rfl) (fun _ z => z) hw hd (K ad la H locs e1 hR hKC hL hc1 (all_cons hvw hcr) hF hS hn hs)
        split at hv
        · rename_i h1
          rw [if_pos h1] at hval
          exact fin (w := .inr (.inl (hL_ h a pl))) hval vcJ (Option.some.inj hv).symm
        · rename_i h1
          rw [if_neg h1] at hval
          split at hv
          · rename_i h2
            rw [if_pos h2] at hval
            exact fin (w := .inr (.inr (.inl (hR_ h a pl)))) hval (fun b hb9 => hR.2.2.2.2.1 a pl b (vA_inj hb9)) (Option.some.inj hv).symm
          · rename_i h2
            rw [if_neg h2] at hval
            exact fin (w := .inl (hI_ h a pl)) hval vcI (Option.some.inj hv).symm
      · rename_i hk16
        have hc := fld_mem (kap_lt hq200) hf
        unfold ckf_ at hc
        dsimp only at hc
        rw [if_neg hk16] at hc
        have fin : ∀ {w : AV} {o n d : String}, va_OF o n d (cv_ ad op w) (ad a) (A_ B0) s s.heap → lw_tbl[j]? = some (.fieldLink (clnm_ (kap_ q)) x o n d) → vc_ L h w → (st', h') = (w :: r, h) → W p l e R s m args below meth c H locs (nx_ h - n0) (sl_ h - s0) Q (F0 m pc la (((.inr (.inr (.inl (some a))) :: r) : List AV).map (cv_ ad op))) := by
          intro w o n d hof hwd hvw heq
          cases heq
          exact vk_getf hx hb hof hS ho (gw_ ht hwd rfl) (fun _ z => z) hd (K ad la H locs e1 hR hKC hL hc1 (all_cons hvw hcr) hF hS hn hs)
        split at hc
        · rename_i h32
          obtain ⟨k, hk, rfl⟩ := tokC hva (hkd.trans h32) hL4
          obtain ⟨-, g1, g2⟩ := hKC.1.2.1 k hk
          simp only [Bool.or_eq_true, Bool.and_eq_true, decide_eq_true_iff] at hc
          rcases hc with ⟨⟨rfl, rfl⟩, hwd⟩ | ⟨⟨rfl, rfl⟩, hwd⟩
          · exact fin g1 hwd vcI (Option.some.inj hv).symm
          · have hcv := List.all_eq_true.mp cR_vl k (List.mem_range.mpr hk)
            refine fin (w := .inr (.inr (.inl (cR_ (tok_ k) 1)))) g2 hwd (fun b hb9 => ?_) (Option.some.inj hv).symm
            have hb8 : cR_ (tok_ k) 1 = some b := vA_inj hb9
            rw [hb8] at hcv
            simp only [Bool.and_eq_true, decide_eq_true_iff] at hcv
            exact vl_str hR.2.2.2.2.2 hcv.1 hcv.2
        · simp only [Bool.or_eq_true, Bool.and_eq_true, decide_eq_true_iff] at hc
          obtain ⟨h33, hc⟩ := hc
          have hst9 := strC hva (hkd.trans h33)
          obtain ⟨-, g1, g2⟩ := hKC.1.2.2.1 a hst9
          rcases hc with ⟨⟨rfl, rfl⟩, hwd⟩ | ⟨⟨rfl, rfl⟩, hwd⟩
          · have hcv := List.all_eq_true.mp cR_vs a hst9
            refine fin (w := .inr (.inr (.inl (cR_ a 0)))) g1 hwd (fun b hb9 => ?_) (Option.some.inj hv).symm
            have hb8 : cR_ a 0 = some b := vA_inj hb9
            rw [hb8] at hcv
            simp only [Bool.and_eq_true, decide_eq_true_iff] at hcv
            exact vl_byt hR.2.2.2.2.2 hcv.1 hcv.2
          · have hz : cI_ a 1 = 0 := by unfold cI_; rw [if_neg (by unfold kd_ at hkd; omega), if_neg (by unfold kd_ at hkd; omega)]
            refine fin (w := .inl (cI_ a 1)) (by rw [hz]; exact g2) hwd vcI (Option.some.inj hv).symm
    · cases hv
  · cases hv
end HP
end
section
/-! writes -/
section HPB
variable {p : Program} {l : Launch} {e : Env} {R : Room} {s : State} {m : MethodId} {args : Array Value} {below : List Frame} {meth : Method} {c : Code} {dC : Nat → ClassId} {dI : Nat → Nat → Nat} {cy : Nat → ClassId} {op : Value} {B0 L : Nat} {xs : Nat → Int32} {ad0 : Nat → Nat} {n0 s0 : Nat} {Q : State → Prop} {q pc len pc' : Nat} {ls st ls' st' : List AV} {h h' : AH} {i : Instr} {v : AV}
/-- a write into the cell of a changes no other cell's picture -/
def oth_ (h h' : AH) (a : Nat) : Prop := ids_ h' = ids_ h ∧ nx_ h' = nx_ h ∧ sl_ h' = sl_ h ∧ ∀ b, b ≠ a → hI_ h' b = hI_ h b ∧ hL_ h' b = hL_ h b ∧ hR_ h' b = hR_ h b
theorem oth_I {a : Nat} {f : Nat → Int32} : oth_ h (uI_ h a f) a := ⟨rfl, rfl, rfl, fun b hb => ⟨by rw [hI_uI, if_neg hb], rfl, rfl⟩⟩
theorem oth_L {a : Nat} {f : Nat → Int64} : oth_ h (uL_ h a f) a := ⟨rfl, rfl, rfl, fun b hb => ⟨rfl, by rw [hL_uL, if_neg hb], rfl⟩⟩
theorem oth_R {a : Nat} {f : Nat → Option Nat} : oth_ h (uR_ h a f) a := ⟨rfl, rfl, rfl, fun b hb => ⟨rfl, rfl, by rw [hR_uR, if_neg hb]⟩⟩
theorem oth_ce {ad : Nat → Nat} {a : Nat} (ho : oth_ h h' a) : ∀ b, b ≠ a → ce_ cy ad h' b = ce_ cy ad h b := by
  intro b hb
  obtain ⟨h1, h2, h3⟩ := ho.2.2.2 b hb
  unfold ce_ fs_
  rw [h1, h2, h3]
theorem vl_same {b : Nat} (h1 : ids_ h' = ids_ h) (h2 : nx_ h' = nx_ h) (hv : vl_ L h b) : vl_ L h' b := by
  unfold vl_ at hv ⊢
  rw [h1, h2]
  exact hv
theorem vc_same (h1 : ids_ h' = ids_ h) (h2 : nx_ h' = nx_ h) (hv : vc_ L h v) : vc_ L h' v := fun b hb => vl_same h1 h2 (hv b hb)
/-- behind a write into the cell of a -/
theorem put_end {ad : Nat → Nat} {la : Array Slot} {H : Heap} {k a : Nat} (ho : oth_ h h' a) (hR : Rp_ dC dI cy B0 L ad h H) (hk : (ids_ h)[k]? = some a) (hr : ∀ pl b, hR_ h' a pl = some b → vl_ L h b)
    (e1 : ∀ a, sr_ a < n0 → ad a = ad0 a) (hKC : KC_ L xs op (A_ B0) ad s s.heap) (hL : Lr_ ad op (mxl_ q) ls la) (hc1 : ∀ v ∈ ls, vc_ L h v) (hc2 : ∀ v ∈ st', vc_ L h v) (hF : ∀ (i : Nat) (x : Int64), ls[i]? = some (vJ x) → i ∈ lgs_ q) (hn : n0 ≤ nx_ h) (hs : s0 ≤ sl_ h)
    (K : Sm_ p l e R s m args below meth c dC dI cy op B0 L xs ad0 n0 s0 Q q pc' ls st' h') {E : va_E} (hE : E = ce_ cy ad h' a) : ∀ (H1 : Heap) (locs1 : List Loc), va_P (dC, dI) vwCl ((pc_ cy ad h).set k (ad a, E)) H1 → va_D (A_ B0) ((pc_ cy ad h).set k (ad a, E)) → va_S (A_ B0) s.heap H1 locs1 → W p l e R s m args below meth c H1 locs1 (nx_ h - n0) (sl_ h - s0) Q (F0 m pc' la (st'.map (cv_ ad op))) := by
  intro H1 locs1 hP hD hS
  rw [hE, pic_set ho.1 hR.2.2.1 hk (oth_ce ho)] at hP hD
  have hn' : nx_ h' = nx_ h := ho.2.1
  have hs' : sl_ h' = sl_ h := ho.2.2.1
  rw [← hn', ← hs']
  refine K ad la H1 locs1 e1 ⟨hP, hD, ?_, ?_, ?_, ?_⟩ hKC hL (fun w hw => vc_same ho.1 hn' (hc1 w hw)) (fun w hw => vc_same ho.1 hn' (hc2 w hw)) hF hS (by omega) (by omega)
  · rw [ho.1]; exact hR.2.2.1
  · rw [ho.1, hn']; exact hR.2.2.2.1
  · intro a9 pl b hb
    refine vl_same ho.1 hn' ?_
    by_cases ha : a9 = a
    · subst ha; exact hr pl b hb
    · rw [(ho.2.2.2 a9 ha).2.2] at hb
      exact hR.2.2.2.2.1 a9 pl b hb
  · rw [hn']; exact hR.2.2.2.2.2
theorem fits_ref {o : Option Nat} {ty : FieldType} (h : (∃ n, ty = .object n) ∨ ∃ u, ty = .array u) : narrow ty (va_rf o) = va_rf o ∧ fits ty (va_rf o) = true := by
  rcases h with ⟨n, rfl⟩ | ⟨u, rfl⟩ <;> cases o <;> exact ⟨rfl, rfl⟩
theorem sd_put {x : Nat} {ini : Bool} (C : Cx_ p l R s m args meth c dC dI cy op B0 L xs q) (hini : ini = ((nam_ q).name == "<init>")) (hd : decode (cod_ q) pc = .ok (.putfield x, 3)) (hv : exh_ xs (kap_ q) ini (.putfield x) st h = some (st', h')) (K : Sm_ p l e R s m args below meth c dC dI cy op B0 L xs ad0 n0 s0 Q q (pc + 3) ls st' h') : Sm_ p l e R s m args below meth c dC dI cy op B0 L xs ad0 n0 s0 Q q pc ls st h := by
  obtain ⟨⟨hx, hb, hml, ho, ht⟩, hK0, ⟨hB, hL4, hq200⟩, hlk, hrt, hnm, hst⟩ := C
  intro ad la H locs e1 hR hKC hL hc1 hc2 hF hS hn hs
  unfold exh_ at hv
  dsimp only at hv
  split at hv
  · rename_i e9 kk pl t j w a r hf
    split at hv
    · rename_i hcond
      obtain ⟨hkd, hk16, hfin⟩ := hcond
      have hva : vl_ L h a := hc2 _ (List.mem_cons_of_mem _ List.mem_cons_self) a rfl
      have hcr : ∀ z ∈ r, vc_ L h z := fun z hz => hc2 z (List.mem_cons_of_mem _ (List.mem_cons_of_mem _ hz))
      obtain ⟨h9, hpl, hft, hfT, hlk2, hcl⟩ := fld_own (kap_lt hq200) hf hk16
      obtain ⟨k, hk1, hk2⟩ := pic_at (cy := cy) (ad := ad) (ids_of hva (by omega))
      have hce : ∀ g : AH, ce_ cy ad g a = .inr (kk, fs_ ad g a) := fun g => by unfold ce_; rw [if_pos (by omega), hkd]
      rw [hce] at hk2
      have fin : ∀ {ty : FieldType}, parseFieldDescriptor (T_ kk pl).2.2.1 = some ty → narrow ty (cv_ ad op w) = cv_ ad op w → fits ty (cv_ ad op w) = true → oth_ h h' a → (∀ p b, hR_ h' a p = some b → vl_ L h b) → (fs_ ad h a).set pl (cv_ ad op w) = fs_ ad h' a → st' = r →
          W p l e R s m args below meth c H locs (nx_ h - n0) (sl_ h - s0) Q (F0 m pc la (((w :: .inr (.inr (.inl (some a))) :: r) : List AV).map (cv_ ad op))) := by
        intro ty hty hnw hfi hoth hrr hset hst9
        subst hst9
        have go := put_end (cy := cy) (K := K) (E := .inr (kk, (fs_ ad h a).set pl (cv_ ad op w))) hoth hR hk1 hrr e1 hKC hL hc1 hcr hF hn hs (by rw [hce, hset])
        rcases hfin with hf0 | ⟨hf0, hf1⟩
        · exact va_put hx hb ht (lay_in h9) (ty_ kk) (ty_ok h9) (nm_ok h9) ho hK0 hR.1 hR.2.1 hS k hk2 (vw_at h9) pl hpl (gw_ ht hlk2 rfl) (fun _ z => z) (by
            unfold fnl_ at hf0
            exact hf0) hty hnw hfi (by rw [fs_len, hkd]; exact hpl) hd go
        · by_cases hfn : (T_ kk pl).2.2.2 = true
          · exact va_putF hx hb ht (lay_in h9) (ty_ kk) (ty_ok h9) (nm_ok h9) ho hK0 hR.1 hR.2.1 hS k hk2 (vw_at h9) pl hpl (gw_ ht hlk2 rfl) (fun _ z => z) hfn (by rw [hnm]; rw [hini] at hf0; simpa using hf0) (by rw [hcl, hf1]) hty hnw hfi (by rw [fs_len, hkd]; exact hpl) hd go
          · exact va_put hx hb ht (lay_in h9) (ty_ kk) (ty_ok h9) (nm_ok h9) ho hK0 hR.1 hR.2.1 hS k hk2 (vw_at h9) pl hpl (gw_ ht hlk2 rfl) (fun _ z => z) (by simpa using hfn) hty hnw hfi (by rw [fs_len, hkd]; exact hpl) hd go
      split at hv
      · rename_i y
        split at hv
        · rename_i hcond
          cases hv
          have hset : (fs_ ad h a).set pl (.int y) = fs_ ad (uI_ h a (st_ (hI_ h a) pl y)) a := by
            refine fs_set ?_ (fun j hj => ?_) (fun _ _ => rfl) (fun _ _ => rfl)
            · rw [hkd, hft, if_neg hcond.1, if_neg hcond.2.1, hI_uI, if_pos rfl, st_eq, if_pos rfl]
            · rw [hI_uI, if_pos rfl, st_eq, if_neg hj]
          rcases fT_spec hfT with ⟨rfl, ety⟩ | ⟨rfl, ety⟩ | ⟨rfl, ty, ety, -⟩ | ⟨rfl, ety⟩ | ⟨rfl, ety⟩
          · exact fin ety rfl rfl oth_I (fun p b hb9 => hR.2.2.2.2.1 a p b hb9) hset rfl
          · exact absurd rfl hcond.1
          · exact absurd rfl hcond.2.1
          · have hy : y = 0 ∨ y = 1 := nb_3.mp hcond.2.2
            refine fin ety ?_ ?_ oth_I (fun p b hb9 => hR.2.2.2.2.1 a p b hb9) hset rfl
            · rcases hy with rfl | rfl <;> rfl
            · rcases hy with rfl | rfl <;> rfl
          · have hy : y.toInt8.toInt32 = y := by simpa [nb_] using hcond.2.2
            refine fin ety ?_ ?_ oth_I (fun p b hb9 => hR.2.2.2.2.1 a p b hb9) hset rfl
            · show Value.int y.toInt8.toInt32 = Value.int y
              rw [hy]
            · have := pk_fb y
              rw [hy] at this
              exact this
        · cases hv
      · rename_i y
        split at hv
        · rename_i hcond
          cases hv
          subst hcond
          rcases fT_spec hfT with ⟨z, ety⟩ | ⟨-, ety⟩ | ⟨z, ty, ety, -⟩ | ⟨z, ety⟩ | ⟨z, ety⟩
          · cases z
          · refine fin ety rfl rfl oth_L (fun p b hb9 => hR.2.2.2.2.1 a p b hb9) (fs_set ?_ (fun _ _ => rfl) (fun j hj => ?_) (fun _ _ => rfl)) rfl
            · rw [hkd, hft, if_pos rfl, hL_uL, if_pos rfl, st_eq, if_pos rfl]; rfl
            · rw [hL_uL, if_pos rfl, st_eq, if_neg hj]
          · cases z
          · cases z
          · cases z
        · cases hv
      · rename_i y
        split at hv
        · rename_i hcond
          cases hv
          subst hcond
          rcases fT_spec hfT with ⟨z, ety⟩ | ⟨z, ety⟩ | ⟨-, ty, ety, hor⟩ | ⟨z, ety⟩ | ⟨z, ety⟩
          · cases z
          · cases z
          · refine fin ety (fits_ref hor).1 (fits_ref hor).2 oth_R (fun p b hb9 => ?_) (fs_set ?_ (fun _ _ => rfl) (fun _ _ => rfl) (fun j hj => ?_)) rfl
            · rw [hR_uR, if_pos rfl, st_eq] at hb9
              split at hb9
              · exact hc2 _ List.mem_cons_self b (by rw [hb9])
              · exact hR.2.2.2.2.1 a p b hb9
            · rw [hkd, hft, if_neg (by decide), if_pos rfl, hR_uR, if_pos rfl, st_eq, if_pos rfl]; rfl
            · rw [hR_uR, if_pos rfl, st_eq, if_neg hj]
          · cases z
          · cases z
        · cases hv
      · cases hv
    · cases hv
  · cases hv
theorem vp_of {i : Int32} {n : Nat} (hi : inb_ i n = true) : vp_in i n := vp_in_iff.mpr (inb_iff.mp hi)
/-- reads of arrays -/
theorem sd_ald (C : Cx_ p l R s m args meth c dC dI cy op B0 L xs q) {ini : Bool} (hi : i = .iaload ∨ i = .baload ∨ i = .laload ∨ i = .aaload ∨ i = .arraylength) (hd : decode (cod_ q) pc = .ok (i, 1)) (hv : exh_ xs (kap_ q) ini i st h = some (st', h')) (K : Sm_ p l e R s m args below meth c dC dI cy op B0 L xs ad0 n0 s0 Q q (pc + 1) ls st' h') : Sm_ p l e R s m args below meth c dC dI cy op B0 L xs ad0 n0 s0 Q q pc ls st h := by
  obtain ⟨⟨hx, hb, hml, ho, ht⟩, hK0, ⟨hB, hL4, hq200⟩, hlk, hrt, hnm, hst⟩ := C
  intro ad la H locs e1 hR hKC hL hc1 hc2 hF hS hn hs
  have vla : ∀ {w a r}, st = w :: .inr (.inr (.inl (some a))) :: r → vl_ L h a := fun hh => hc2 _ (by rw [hh]; exact List.mem_cons_of_mem _ List.mem_cons_self) _ rfl
  have vcr : ∀ {w a r}, st = w :: .inr (.inr (.inl (some a))) :: r → ∀ z ∈ r, vc_ L h z := fun hh z hz => hc2 z (by rw [hh]; exact List.mem_cons_of_mem _ (List.mem_cons_of_mem _ hz))
  have pic : ∀ {a : Nat}, vl_ L h a → 16 ≤ kd_ a → kd_ a ≤ 22 → ∃ k : Nat, (pc_ cy ad h)[k]? = some (ad a, ce_ cy ad h a) := fun hva h1 h2 => by
    obtain ⟨k, -, hk2⟩ := pic_at (cy := cy) (ad := ad) (hva.2.1 (by omega))
    exact ⟨k, hk2⟩
  have ceI : ∀ {a : Nat}, 16 ≤ kd_ a → kd_ a < 19 → ce_ cy ad h a = .inl (cy (kd_ a), ln_ a, .inl (hI_ h a)) := fun h1 h2 => by unfold ce_; rw [if_neg (by omega), if_neg (by omega), if_pos h2]
  have ceL : ∀ {a : Nat}, kd_ a = 19 → ce_ cy ad h a = .inl (cy (kd_ a), ln_ a, .inr (.inl (hL_ h a))) := fun h1 => by unfold ce_; rw [if_neg (by omega), if_pos h1]
  have ceR : ∀ {a : Nat}, 20 ≤ kd_ a → ce_ cy ad h a = .inl (cy (kd_ a), ln_ a, .inr (.inr (.inr (.inr (fun j => (hR_ h a j).map ad))))) := fun h1 => by unfold ce_; rw [if_neg (by omega), if_neg (by omega), if_neg (by omega)]
  have tcell : ∀ {ty : FieldType} {t N : Nat} {f : Nat → Value}, va_T ty t N f (A_ B0) s s.heap → ∃ cell : Cell, H[t]? = some cell ∧ s.isArrayOf cell ty ∧ cell.vm ≠ .unknown ∧ N ≤ cell.slots.size ∧ cell.slots.size.toInt32 = Int32.ofNat N ∧ ∀ j : Nat, j < N → cell.slots[j]? = some (f j) := fun hT => by
    obtain ⟨cell, g1, g2, g3, g4, g5, g6, -⟩ := hT.kept hS.2.1
    exact ⟨cell, g1, g2, g3, g4, g5, g6⟩
  rcases hi with rfl | rfl | rfl | rfl | rfl
  · unfold exh_ at hv
    dsimp only at hv
    split at hv
    · rename_i j a r
      have hva := vla rfl
      split at hv
      · rename_i hin
        split at hv
        · rename_i hk
          cases hv
          obtain ⟨k, hk2⟩ := pic hva (by omega) (by omega)
          rw [ceI (by omega) (by omega), hk] at hk2
          exact va_iald hx hb hK0 hR.1 k 0 hk2 rfl (vp_of hin) hd (K ad la H locs e1 hR hKC hL hc1 (all_cons vcI (vcr rfl)) hF hS hn hs)
        · split at hv
          · rename_i hk
            cases hv
            have hsc := scrC hva hk
            obtain ⟨cell, g1, g2, g3, g4, g5, g6⟩ := tcell hKC.1.2.2.2.2.2.1
            rw [← hsc] at g1
            have hix := inb_iff.mp hin
            have hln : ln_ a = L := by rw [hsc]; unfold ln_ scr_; omega
            have hix' : vp_in j L := vp_in_iff.mpr (by rw [← hln]; exact hix)
            have hlt : j.toNatClampNeg < L := Nat.not_le.mp fun z => hix' (Or.inr z)
            exact W.iald hx hb g1 g2 g3 (fun z => z.elim (fun y => hix' (Or.inl y)) (fun y => by omega)) (g6 _ hlt) rfl rfl hd (K ad la H locs e1 hR hKC hL hc1 (all_cons vcI (vcr rfl)) hF hS hn hs)
          · cases hv
      · cases hv
    · cases hv
  · unfold exh_ at hv
    dsimp only at hv
    split at hv
    · rename_i j a r
      have hva := vla rfl
      split at hv
      · rename_i hin
        split at hv
        · rename_i hk
          cases hv
          obtain ⟨k, hk2⟩ := pic hva (by omega) (by omega)
          rw [ceI (by omega) (by omega)] at hk2
          rcases hk with hk | hk
          · rw [hk] at hk2
            exact va_bald hx hb hK0 hR.1 k 1 hk2 rfl (vp_of hin) hd (K ad la H locs e1 hR hKC hL hc1 (all_cons vcI (vcr rfl)) hF hS hn hs)
          · rw [hk] at hk2
            exact va_zald hx hb hK0 hR.1 k 2 hk2 rfl (vp_of hin) hd (K ad la H locs e1 hR hKC hL hc1 (all_cons vcI (vcr rfl)) hF hS hn hs)
        · split at hv
          · rename_i hk
            cases hv
            have hby := bytC hva hk
            obtain ⟨cell, g1, g2, g3, g4, g5, g6⟩ := tcell (hKC.1.2.2.2.1 a hby)
            have hix' : vp_in j (ln_ a) := vp_of hin
            have hlt : j.toNatClampNeg < ln_ a := Nat.not_le.mp fun z => hix' (Or.inr z)
            exact W.bald hx hb g1 g2 g3 (fun z => z.elim (fun y => hix' (Or.inl y)) (fun y => by omega)) (g6 _ hlt) rfl rfl hd (K ad la H locs e1 hR hKC hL hc1 (all_cons vcI (vcr rfl)) hF hS hn hs)
          · cases hv
      · cases hv
    · cases hv
  · unfold exh_ at hv
    dsimp only at hv
    split at hv
    · rename_i j a r
      have hva := vla rfl
      split at hv
      · rename_i hin
        cases hv
        obtain ⟨k, hk2⟩ := pic hva (by omega) (by omega)
        rw [ceL hin.2, hin.2] at hk2
        exact va_lald hx hb hK0 hR.1 k 3 hk2 rfl (vp_of hin.1) hd (K ad la H locs e1 hR hKC hL hc1 (all_cons vcJ (vcr rfl)) hF hS hn hs)
      · cases hv
    · cases hv
  · unfold exh_ at hv
    dsimp only at hv
    split at hv
    · rename_i j a r
      have hva := vla rfl
      split at hv
      · rename_i hin
        split at hv
        · rename_i hk
          cases hv
          obtain ⟨k, hk2⟩ := pic hva (by omega) (by omega)
          rw [ceR (by omega)] at hk2
          have kk := K ad la H locs e1 hR hKC hL hc1 (all_cons (v := .inr (.inr (.inl (hR_ h a j.toNatClampNeg)))) (fun b hb9 => hR.2.2.2.2.1 a _ b (vA_inj hb9)) (vcr rfl)) hF hS hn hs
          rcases hk with hk | hk | hk
          · rw [hk] at hk2
            exact va_aldq hx hb hK0 hR.1 k 4 hk2 rfl (vp_of hin) hd kk
          · rw [hk] at hk2
            exact va_aldq hx hb hK0 hR.1 k 5 hk2 rfl (vp_of hin) hd kk
          · rw [hk] at hk2
            exact va_aldq hx hb hK0 hR.1 k 6 hk2 rfl (vp_of hin) hd kk
        · split at hv
          · rename_i hk
            cases hv
            have htk := tkaC hva hk
            subst htk
            obtain ⟨cell, g1, g2, g3, g4, g5, g6⟩ := tcell hKC.1.2.2.2.2.1
            have hln : ln_ tka_ = 22 := by decide +kernel
            have hix' : vp_in j 22 := by rw [← hln]; exact vp_of hin
            have hlt : j.toNatClampNeg < 22 := Nat.not_le.mp fun z => hix' (Or.inr z)
            have hcr : cR_ tka_ j.toNatClampNeg = some (tok_ j.toNatClampNeg) := by
              unfold cR_ tok_
              rw [if_neg (by decide +kernel), if_neg (by decide +kernel), if_pos (by decide +kernel)]
            have kk := K ad la H locs e1 hR hKC hL hc1 (all_cons (v := .inr (.inr (.inl (cR_ tka_ j.toNatClampNeg)))) (fun b hb9 => by
              have := vA_inj hb9
              rw [hcr] at this
              cases this
              exact vl_tok hR.2.2.2.2.2 hlt) (vcr rfl)) hF hS hn hs
            exact W.aald hx hb g1 g2 rfl g3 (fun z => z.elim (fun y => hix' (Or.inl y)) (fun y => by omega)) (g6 _ hlt) rfl rfl hd kk
          · cases hv
      · cases hv
    · cases hv
  · unfold exh_ at hv
    dsimp only at hv
    split at hv
    · rename_i a r
      have hva : vl_ L h a := hc2 _ List.mem_cons_self _ rfl
      have hcr : ∀ z ∈ r, vc_ L h z := fun z hz => hc2 z (List.mem_cons_of_mem _ hz)
      split at hv
      · rename_i hk
        cases hv
        have kk := K ad la H locs e1 hR hKC hL hc1 (all_cons vcI hcr) hF hS hn hs
        rcases hk with hk | hk
        · obtain ⟨k, hk2⟩ := pic hva (by omega) (by omega)
          rcases (show kd_ a = 16 ∨ kd_ a = 17 ∨ kd_ a = 18 ∨ kd_ a = 19 ∨ kd_ a = 20 ∨ kd_ a = 21 ∨ kd_ a = 22 by omega) with hk | hk | hk | hk | hk | hk | hk
          · rw [ceI (by omega) (by omega), hk] at hk2
            exact va_alen hx hb hK0 hR.1 k 0 hk2 (ty := .int) rfl rfl hd kk
          · rw [ceI (by omega) (by omega), hk] at hk2
            exact va_alen hx hb hK0 hR.1 k 1 hk2 (ty := .byte) rfl rfl hd kk
          · rw [ceI (by omega) (by omega), hk] at hk2
            exact va_alen hx hb hK0 hR.1 k 2 hk2 (ty := .boolean) rfl rfl hd kk
          · rw [ceL hk, hk] at hk2
            exact va_alen hx hb hK0 hR.1 k 3 hk2 (ty := .long) rfl rfl hd kk
          · rw [ceR (by omega), hk] at hk2
            exact va_alen hx hb hK0 hR.1 k 4 hk2 (ty := .object RX0) rfl rfl hd kk
          · rw [ceR (by omega), hk] at hk2
            exact va_alen hx hb hK0 hR.1 k 5 hk2 (ty := .object RX4) rfl rfl hd kk
          · rw [ceR (by omega), hk] at hk2
            exact va_alen hx hb hK0 hR.1 k 6 hk2 (ty := .object RX6) rfl rfl hd kk
        · rcases (show kd_ a = 34 ∨ kd_ a = 35 ∨ kd_ a = 36 by omega) with hk | hk | hk
          · obtain ⟨cell, g1, g2, g3, g4, g5, g6⟩ := tcell (hKC.1.2.2.2.1 a (bytC hva hk))
            exact W.alen hx hb g1 g2 g5 rfl rfl hd kk
          · have htk := tkaC hva hk
            subst htk
            obtain ⟨cell, g1, g2, g3, g4, g5, g6⟩ := tcell hKC.1.2.2.2.2.1
            exact W.alen hx hb g1 g2 g5 rfl rfl hd kk
          · have hsc := scrC hva hk
            have hln : ln_ a = L := by rw [hsc]; unfold ln_ scr_; omega
            obtain ⟨cell, g1, g2, g3, g4, g5, g6⟩ := tcell hKC.1.2.2.2.2.2.1
            rw [← hsc] at g1
            exact W.alen hx hb g1 g2 (by rw [g5, hln]) rfl rfl hd kk
      · cases hv
    · cases hv
end HPB
end
section
/-! writes of arrays, new cells -/
section HPC
variable {p : Program} {l : Launch} {e : Env} {R : Room} {s : State} {m : MethodId} {args : Array Value} {below : List Frame} {meth : Method} {c : Code} {dC : Nat → ClassId} {dI : Nat → Nat → Nat} {cy : Nat → ClassId} {op : Value} {B0 L : Nat} {xs : Nat → Int32} {ad0 : Nat → Nat} {n0 s0 : Nat} {Q : State → Prop} {q pc len pc' : Nat} {ls st ls' st' : List AV} {h h' : AH} {i : Instr} {v : AV}
theorem sd_ast (C : Cx_ p l R s m args meth c dC dI cy op B0 L xs q) {ini : Bool} (hi : i = .iastore ∨ i = .bastore ∨ i = .lastore ∨ i = .aastore) (hd : decode (cod_ q) pc = .ok (i, 1)) (hv : exh_ xs (kap_ q) ini i st h = some (st', h')) (K : Sm_ p l e R s m args below meth c dC dI cy op B0 L xs ad0 n0 s0 Q q (pc + 1) ls st' h') : Sm_ p l e R s m args below meth c dC dI cy op B0 L xs ad0 n0 s0 Q q pc ls st h := by
  obtain ⟨⟨hx, hb, hml, ho, ht⟩, hK0, ⟨hB, hL4, hq200⟩, hlk, hrt, hnm, hst⟩ := C
  intro ad la H locs e1 hR hKC hL hc1 hc2 hF hS hn hs
  have vla : ∀ {w u a r}, st = w :: u :: .inr (.inr (.inl (some a))) :: r → vl_ L h a := fun hh => hc2 _ (by rw [hh]; exact List.mem_cons_of_mem _ (List.mem_cons_of_mem _ List.mem_cons_self)) _ rfl
  have vcr : ∀ {w u a r}, st = w :: u :: .inr (.inr (.inl (some a))) :: r → ∀ z ∈ r, vc_ L h z := fun hh z hz => hc2 z (by rw [hh]; exact List.mem_cons_of_mem _ (List.mem_cons_of_mem _ (List.mem_cons_of_mem _ hz)))
  have pic : ∀ {a : Nat}, vl_ L h a → 16 ≤ kd_ a → kd_ a ≤ 22 → ∃ k : Nat, (ids_ h)[k]? = some a ∧ (pc_ cy ad h)[k]? = some (ad a, ce_ cy ad h a) := fun hva h1 h2 => pic_at (cy := cy) (ad := ad) (hva.2.1 (by omega))
  have ceI : ∀ {a : Nat} (g : AH), 16 ≤ kd_ a → kd_ a < 19 → ce_ cy ad g a = .inl (cy (kd_ a), ln_ a, .inl (hI_ g a)) := fun g h1 h2 => by unfold ce_; rw [if_neg (by omega), if_neg (by omega), if_pos h2]
  have ceL : ∀ {a : Nat} (g : AH), kd_ a = 19 → ce_ cy ad g a = .inl (cy (kd_ a), ln_ a, .inr (.inl (hL_ g a))) := fun g h1 => by unfold ce_; rw [if_neg (by omega), if_pos h1]
  have ceR : ∀ {a : Nat} (g : AH), 20 ≤ kd_ a → ce_ cy ad g a = .inl (cy (kd_ a), ln_ a, .inr (.inr (.inr (.inr (fun j => (hR_ g a j).map ad))))) := fun g h1 => by unfold ce_; rw [if_neg (by omega), if_neg (by omega), if_neg (by omega)]
  rcases hi with rfl | rfl | rfl | rfl
  · unfold exh_ at hv
    dsimp only at hv
    split at hv
    · rename_i w j a r
      have hva := vla rfl
      split at hv
      · rename_i hin
        cases hv
        obtain ⟨k, hk1, hk2⟩ := pic hva (by omega) (by omega)
        rw [ceI h (by omega) (by omega), hin.2] at hk2
        exact va_iast hx hb hK0 hR.1 hR.2.1 hS k 0 hk2 rfl (vp_of hin.1) hd (put_end (K := K) oth_I hR hk1 (fun p b hb9 => hR.2.2.2.2.1 a p b hb9) e1 hKC hL hc1 (vcr rfl) hF hn hs (by rw [ceI _ (by omega) (by omega), hin.2, hI_uI, if_pos rfl]; rfl))
      · cases hv
    · cases hv
  · unfold exh_ at hv
    dsimp only at hv
    split at hv
    · rename_i w j a r
      have hva := vla rfl
      split at hv
      · rename_i hin
        cases hv
        obtain ⟨k, hk1, hk2⟩ := pic hva (by omega) (by omega)
        rw [ceI h (by omega) (by omega)] at hk2
        rcases hin.2 with ⟨hk, hw⟩ | ⟨hk, hw⟩
        · rw [hk] at hk2
          have hy : w.toInt8.toInt32 = w := by simpa [nb_] using hw
          exact va_bast hx hb hK0 hR.1 hR.2.1 hS k 1 hk2 rfl (vp_of hin.1) hd (put_end (K := K) oth_I hR hk1 (fun p b hb9 => hR.2.2.2.2.1 a p b hb9) e1 hKC hL hc1 (vcr rfl) hF hn hs (by rw [ceI _ (by omega) (by omega), hk, hI_uI, if_pos rfl, vp_nar_byte, hy]; rfl))
        · rw [hk] at hk2
          have hy : vp_nar .boolean w = w := by rcases nb_3.mp hw with rfl | rfl <;> rfl
          exact va_zast hx hb hK0 hR.1 hR.2.1 hS k 2 hk2 rfl (vp_of hin.1) hd (put_end (K := K) oth_I hR hk1 (fun p b hb9 => hR.2.2.2.2.1 a p b hb9) e1 hKC hL hc1 (vcr rfl) hF hn hs (by rw [ceI _ (by omega) (by omega), hk, hI_uI, if_pos rfl, hy]; rfl))
      · cases hv
    · cases hv
  · unfold exh_ at hv
    dsimp only at hv
    split at hv
    · rename_i w j a r
      have hva := vla rfl
      split at hv
      · rename_i hin
        cases hv
        obtain ⟨k, hk1, hk2⟩ := pic hva (by omega) (by omega)
        rw [ceL h hin.2, hin.2] at hk2
        exact va_last hx hb hK0 hR.1 hR.2.1 hS k 3 hk2 rfl (vp_of hin.1) hd (put_end (K := K) oth_L hR hk1 (fun p b hb9 => hR.2.2.2.2.1 a p b hb9) e1 hKC hL hc1 (vcr rfl) hF hn hs (by rw [ceL _ hin.2, hin.2, hL_uL, if_pos rfl]; rfl))
      · cases hv
    · cases hv
  · unfold exh_ at hv
    dsimp only at hv
    split at hv
    · rename_i w j a r
      have hva := vla rfl
      split at hv
      · rename_i hin
        cases hv
        have hw9 : vc_ L h (.inr (.inr (.inl w))) := hc2 _ List.mem_cons_self
        obtain ⟨k, hk1, hk2⟩ := pic hva (by omega) (by omega)
        rw [ceR h (by omega)] at hk2
        have hrr : ∀ p b, hR_ (uR_ h a (st_ (hR_ h a) j.toNatClampNeg w)) a p = some b → vl_ L h b := by
          intro p b hb9
          rw [hR_uR, if_pos rfl, st_eq] at hb9
          split at hb9
          · exact hw9 b (by rw [hb9])
          · exact hR.2.2.2.2.1 a p b hb9
        have hup : ∀ {f : Nat → Option Nat} {o : Option Nat}, (fun z => (st_ f j.toNatClampNeg o z).map ad) = va_up (fun z => (f z).map ad) j.toNatClampNeg (o.map ad) := by
          intro f o
          funext z
          unfold st_ va_up
          split <;> rfl
        have hE : ∀ {kk : Nat}, kd_ a = kk → (.inl (cy kk, ln_ a, .inr (.inr (.inr (.inr (va_up (fun z => (hR_ h a z).map ad) j.toNatClampNeg (w.map ad)))))) : va_E) = ce_ cy ad (uR_ h a (st_ (hR_ h a) j.toNatClampNeg w)) a := by
          intro kk hkk
          rw [ceR _ (by omega), hkk, hR_uR, if_pos rfl, hup]
        have go : ∀ {kk : Nat}, kd_ a = kk → _ := fun {kk} hkk => put_end (K := K) (E := .inl (cy kk, ln_ a, .inr (.inr (.inr (.inr (va_up (fun z => (hR_ h a z).map ad) j.toNatClampNeg (w.map ad))))))) oth_R hR hk1 hrr e1 hKC hL hc1 (vcr rfl) hF hn hs (hE hkk)
        rcases hin.2 with ⟨hk, hw⟩ | ⟨hk, hw⟩ | ⟨hk, hw⟩
        · rw [hk] at hk2
          cases w with
          | none => exact va_astqN hx hb hK0 hR.1 hR.2.1 hS k 4 hk2 rfl (vp_of hin.1) hd (go hk)
          | some b =>
            have hb0 : kd_ b = 0 := by simpa [ok1_] using hw
            obtain ⟨k', -, hk3⟩ := pic_at (cy := cy) (ad := ad) ((hw9 b rfl).2.1 (by omega))
            have hce : ce_ cy ad h b = .inr (0, fs_ ad h b) := by unfold ce_; rw [if_pos (by omega), hb0]
            rw [hce] at hk3
            exact va_astq hx hb hK0 hR.1 hR.2.1 hS k 4 k' 0 hk2 (r := (clnm_ 0, T_ 0, nfl_ 0)) rfl hk3 (vw_at (by omega)) (vp_of hin.1) hd (go hk)
        · rw [hk] at hk2
          cases w with
          | none => exact va_astqN hx hb hK0 hR.1 hR.2.1 hS k 5 hk2 rfl (vp_of hin.1) hd (go hk)
          | some b =>
            have hb0 : kd_ b = 4 := by simpa [ok1_] using hw
            obtain ⟨k', -, hk3⟩ := pic_at (cy := cy) (ad := ad) ((hw9 b rfl).2.1 (by omega))
            have hce : ce_ cy ad h b = .inr (4, fs_ ad h b) := by unfold ce_; rw [if_pos (by omega), hb0]
            rw [hce] at hk3
            exact va_astq hx hb hK0 hR.1 hR.2.1 hS k 5 k' 4 hk2 (r := (clnm_ 4, T_ 4, nfl_ 4)) rfl hk3 (vw_at (by omega)) (vp_of hin.1) hd (go hk)
        · rw [hk] at hk2
          cases w with
          | none => exact va_astqN hx hb hK0 hR.1 hR.2.1 hS k 6 hk2 rfl (vp_of hin.1) hd (go hk)
          | some b =>
            have hb0 : kd_ b = 32 := by simpa [ok1_] using hw
            obtain ⟨k9, hk9, rfl⟩ := tokC (hw9 b rfl) hb0 hL4
            obtain ⟨cell, g1, g2, g3, -⟩ := (hKC.1.2.1 k9 hk9).1.kept hS.2.1
            obtain ⟨kC, hkC, -⟩ := Vm.findClass_spec g3
            have hany : va_Any RX6 s H (ad (tok_ k9)) := ⟨cell, g1, g2, ⟨kC, hkC⟩, fun comp hcomp => by
              have := Option.some.inj (hcomp.symm.trans g3)
              subst this
              exact va_asg _ _⟩
            exact va_astqM hx hb hK0 hR.1 hR.2.1 hS k 6 hk2 rfl hany (vp_of hin.1) hd (go hk)
      · cases hv
    · cases hv
/-- where new cells lie -/
def adn_ (ad : Nat → Nat) (id q : Nat) : Nat → Nat := fun b => if b = id then q else ad b
theorem adn_ne {ad : Nat → Nat} {id q b : Nat} (hb : sr_ b < sr_ id) : adn_ ad id q b = ad b := by
  unfold adn_
  rw [if_neg (fun z => by rw [z] at hb; omega)]
theorem cv_adn {ad : Nat → Nat} {id z : Nat} {w : AV} (hid : sr_ id = nx_ h) (hw : vc_ L h w) : cv_ (adn_ ad id z) op w = cv_ ad op w := by
  rcases w with x | x | x | x
  · rfl
  · rfl
  · cases x with
    | none => rfl
    | some b =>
      show Value.ref _ = Value.ref _
      rw [adn_ne (by rw [hid]; exact (hw b rfl).1)]
  · rfl
theorem map_adn {ad : Nat → Nat} {id z : Nat} (hid : sr_ id = nx_ h) (hc : ∀ w ∈ st, vc_ L h w) : st.map (cv_ (adn_ ad id z) op) = st.map (cv_ ad op) := List.map_congr_left (fun w hw => cv_adn hid (hc w hw))
theorem Lr_.adn {ad : Nat → Nat} {id z nL : Nat} {la : Array Slot} (hid : sr_ id = nx_ h) (hc : ∀ w ∈ ls, vc_ L h w) (hL : Lr_ ad op nL ls la) : Lr_ (adn_ ad id z) op nL ls la :=
  ⟨hL.1, hL.2.1, hL.2.2.1, fun i w hi hw => by rw [cv_adn hid (hc w (List.mem_of_getElem? hi))]; exact hL.2.2.2 i w hi hw⟩
theorem vl_nw {k n sz b : Nat} (hv : vl_ L h b) : vl_ L (nw_ h k n sz) b := ⟨by rw [nx_nw]; have := hv.1; omega, fun z => by rw [ids_nw]; exact List.mem_append_left _ (hv.2.1 z), hv.2.2⟩
theorem vc_nw {k n sz : Nat} (hv : vc_ L h v) : vc_ L (nw_ h k n sz) v := fun b hb => vl_nw (hv b hb)
/-- behind a new cell -/
theorem nwc_end {ad : Nat → Nat} {la : Array Slot} {H : Heap} {locs : List Loc} {k n sz : Nat} (hk : k < 9 ∨ 16 ≤ k ∧ k ≤ 22) (hn4 : n < 4096) (hR : Rp_ dC dI cy B0 L ad h H) (hL4 : L < 4096)
    (e1 : ∀ a, sr_ a < n0 → ad a = ad0 a) (hKC : KC_ L xs op (A_ B0) ad s s.heap) (hL : Lr_ ad op (mxl_ q) ls la) (hc1 : ∀ v ∈ ls, vc_ L h v) (hc2 : ∀ v ∈ st', vc_ L h v) (hF : ∀ (i : Nat) (x : Int64), ls[i]? = some (vJ x) → i ∈ lgs_ q) (hn : n0 ≤ nx_ h) (hs : s0 ≤ sl_ h)
    (K : Sm_ p l e R s m args below meth c dC dI cy op B0 L xs ad0 n0 s0 Q q pc' ls (.inr (.inr (.inl (some (mk_ (nx_ h) k n)))) :: st') (nw_ h k n sz)) : ∀ (z : Nat) (E : va_E) (H1 : Heap), E = ce_ cy (adn_ ad (mk_ (nx_ h) k n) z) (nw_ h k n sz) (mk_ (nx_ h) k n) → va_P (dC, dI) vwCl (pc_ cy ad h ++ [(z, E)]) H1 → va_D (A_ B0) (pc_ cy ad h ++ [(z, E)]) → va_S (A_ B0) s.heap H1 locs → W p l e R s m args below meth c H1 locs (nx_ h - n0 + 1) (sl_ h - s0 + sz) Q (F0 m pc' la (.ref z :: st'.map (cv_ ad op))) := by
  intro z E H1 hE hP hD hS
  have hid : sr_ (mk_ (nx_ h) k n) = nx_ h := sr_mk (by omega) hn4
  have hfr : ∀ b ∈ ids_ h, b ≠ mk_ (nx_ h) k n := fun b hb z => by
    have := (hR.2.2.2.1 b hb).1
    rw [z, hid] at this
    omega
  have hpc : pc_ cy (adn_ ad (mk_ (nx_ h) k n) z) (nw_ h k n sz) = pc_ cy ad h ++ [(z, E)] := by
    unfold pc_
    rw [ids_nw, List.map_append, List.map_singleton]
    congr 1
    · apply List.map_congr_left
      intro b hb
      have hb1 := hfr b hb
      have hb2 := (hR.2.2.2.1 b hb).1
      have hrow : ∀ j, (hR_ h b j).map (adn_ ad (mk_ (nx_ h) k n) z) = (hR_ h b j).map ad := fun j => omap_eq (fun c9 hc9 => adn_ne (by rw [hid]; exact (hR.2.2.2.2.1 b j c9 hc9).1))
      rw [adn_ne (by rw [hid]; exact hb2)]
      unfold ce_ fs_
      simp only [hI_nw, hL_nw, hR_nw, if_neg hb1, hrow]
    · rw [hE]
      unfold adn_
      rw [if_pos rfl]
  rw [← hpc] at hP hD
  have hnn : nx_ (nw_ h k n sz) - n0 = nx_ h - n0 + 1 := by rw [nx_nw]; omega
  have hss : sl_ (nw_ h k n sz) - s0 = sl_ h - s0 + sz := by rw [sl_nw]; omega
  rw [← hnn, ← hss]
  have hstk : (Value.ref z :: st'.map (cv_ ad op)) = ((.inr (.inr (.inl (some (mk_ (nx_ h) k n)))) :: st' : List AV)).map (cv_ (adn_ ad (mk_ (nx_ h) k n) z) op) := by
    rw [List.map_cons, map_adn hid hc2]
    show _ = Value.ref (adn_ ad (mk_ (nx_ h) k n) z (mk_ (nx_ h) k n)) :: _
    unfold adn_
    rw [if_pos rfl]
  rw [hstk]
  have hvn : vl_ L (nw_ h k n sz) (mk_ (nx_ h) k n) := ⟨by rw [hid, nx_nw]; omega, fun _ => by rw [ids_nw]; exact List.mem_append_right _ List.mem_cons_self, fun hh => by rw [kd_mk (by omega)] at hh; omega⟩
  refine K _ la H1 locs (fun a ha => by rw [adn_ne (by rw [hid]; omega)]; exact e1 a ha) ⟨hP, hD, ?_, ?_, ?_, ?_⟩ (hKC.ad hL4 (fun a ha => adn_ne (by rw [hid]; have := hR.2.2.2.2.2; omega))) (hL.adn hid hc1) (fun w hw => vc_nw (hc1 w hw)) (all_cons (fun b hb9 => by cases vA_inj hb9; exact hvn) (fun w hw => vc_nw (hc2 w hw))) hF hS (by rw [nx_nw]; omega) (by rw [sl_nw]; omega)
  · rw [ids_nw]
    exact List.nodup_append.mpr ⟨hR.2.2.1, (List.pairwise_singleton _ _), fun a ha b hb => by rw [List.mem_singleton.mp hb]; exact hfr a ha⟩
  · intro a ha
    rw [ids_nw] at ha
    rcases List.mem_append.mp ha with h1 | h1
    · have := hR.2.2.2.1 a h1
      exact ⟨by rw [nx_nw]; omega, this.2⟩
    · rw [List.mem_singleton.mp h1]
      refine ⟨by rw [hid, nx_nw]; omega, ?_⟩
      rw [kd_mk (by omega)]
      exact hk
  · intro a9 pl b hb9
    rw [hR_nw] at hb9
    split at hb9
    · cases hb9
    · exact vl_nw (hR.2.2.2.2.1 a9 pl b hb9)
  · rw [nx_nw]; have := hR.2.2.2.2.2; omega
theorem arr_wd {w : Cond} {j : Nat} (ht : ∀ w ∈ gtb_, w.before args s = true) (h1 : decide (lw_tbl[j]? = some w) = true) (hg : goodWord w = true) : w.before args s = true := gw_ ht (of_decide_eq_true h1) hg
theorem cls_mem {k x : Nat} {e9 : Nat × Nat} (hk : k < 18) (h9 : cls_ k x = some e9) : ckc_ k (x, e9) = true := pool_all okc_ hk h9
/-- new arrays and objects -/
theorem sd_new (C : Cx_ p l R s m args meth c dC dI cy op B0 L xs q) {ini : Bool} (hi : (∃ t, i = .newarray t) ∨ (∃ x, i = .anewarray x) ∨ ∃ x, i = .new x) (hlk0 : lok_ i len = true) (hd : decode (cod_ q) pc = .ok (i, len)) (hv : exh_ xs (kap_ q) ini i st h = some (st', h')) (hrc : nx_ h' - n0 ≤ R.cells) (hrs : sl_ h' - s0 ≤ R.slots) (K : Sm_ p l e R s m args below meth c dC dI cy op B0 L xs ad0 n0 s0 Q q (pc + len) ls st' h') : Sm_ p l e R s m args below meth c dC dI cy op B0 L xs ad0 n0 s0 Q q pc ls st h := by
  obtain ⟨⟨hx, hb, hml, ho, ht⟩, hK0, ⟨hB, hL4, hq200⟩, hlk, hrt, hnm, hst⟩ := C
  intro ad la H locs e1 hR hKC hL hc1 hc2 hF hS hn hs
  have hA : ∀ q : Nat, s.heap.size ≤ q → A_ B0 q := fun q hq => Nat.le_trans hB hq
  rcases hi with ⟨t, rfl⟩ | ⟨x, rfl⟩ | ⟨x, rfl⟩
  · cases lok_eq hlk0
    unfold exh_ at hv
    dsimp only at hv
    split at hv
    · rename_i n r
      have hcr : ∀ z ∈ r, vc_ L h z := fun z hz => hc2 z (List.mem_cons_of_mem _ hz)
      split at hv
      · rename_i hcond
        obtain ⟨h0, h4, h63⟩ := hcond
        cases hv
        rw [nx_nw] at hrc
        rw [sl_nw] at hrs
        have hneg : ¬ n < 0 := by rw [Int32.lt_iff_toInt_lt]; show ¬ n.toInt < 0; omega
        have key : ∀ {ty : FieldType} {k t0 : Nat} {a0 : vp_A}, arr_ t = k → newarray.typeOf t = ty → (k < 9 ∨ 16 ≤ k ∧ k ≤ 22) → (tys_ cy)[t0]? = some (cy k, ty) → (Cond.arrayClass ty).before args s = true → componentBytes ty ≤ 8 → (∀ cA, va_RA s cA ty = (s.vm.findClass ("[" ++ ty.toString) = some cA)) → (∀ cA : ClassId, vp_cell cA a0 = arrV cA n.toNatClampNeg (fun _ => defaultValue ty)) →
            (∀ z, (.inl (cy k, a0) : va_E) = ce_ cy (adn_ ad (mk_ (nx_ h) k n.toNatClampNeg) z) (nw_ h k n.toNatClampNeg n.toNatClampNeg) (mk_ (nx_ h) k n.toNatClampNeg)) → W p l e R s m args below meth c H locs (nx_ h - n0) (sl_ h - s0) Q (F0 m pc la (((.inl n :: r) : List AV).map (cv_ ad op))) := by
          intro ty k t0 a0 hk hty hkk ht0 harr hcb hra hcell hE
          subst hk
          refine va_newa hx hb (by rw [hty]; exact harr) hty hK0 hR.1 hR.2.1 hS hA hcell hneg rfl (Nat.le_trans (Nat.mul_le_mul (Nat.le_of_lt h4) hcb) (by decide)) (by omega) (by omega) hd (fun z cA H1 hK1 hP1 hD1 hS1 => ?_)
          have hcA : cA = cy (arr_ t) := by
            have g1 := (hK1.2 7 (cA, ty) rfl).2
            have g2 := (hK0.2 t0 _ ht0).2
            rw [hra] at g1 g2
            exact Option.some.inj (g1.symm.trans g2)
          subst hcA
          exact nwc_end (K := K) hkk h4 hR hL4 e1 hKC hL hc1 hcr hF hn hs z _ H1 (hE z) hP1 hD1 hS1
        have ck := arr_ck
        simp only [Bool.and_eq_true] at ck
        have hln : ln_ (mk_ (nx_ h) (arr_ t) n.toNatClampNeg) = n.toNatClampNeg := ln_mk (by omega) h4
        have hkd : kd_ (mk_ (nx_ h) (arr_ t) n.toNatClampNeg) = arr_ t := kd_mk (by omega)
        cases t
        case int =>
          refine key (ty := .int) (k := 16) (t0 := 0) (a0 := (n.toNatClampNeg, .inl (fun _ => 0))) rfl rfl (by omega) rfl (arr_wd ht ck.1 rfl) (by decide) (fun _ => rfl) (fun _ => rfl) (fun z => ?_)
          unfold ce_
          rw [show kd_ (mk_ (nx_ h) 16 n.toNatClampNeg) = 16 from hkd, show ln_ (mk_ (nx_ h) 16 n.toNatClampNeg) = n.toNatClampNeg from hln, if_neg (by decide), if_neg (by decide), if_pos (by decide), hI_nw, if_pos rfl]
        case byte =>
          refine key (ty := .byte) (k := 17) (t0 := 1) (a0 := (n.toNatClampNeg, .inl (fun _ => 0))) rfl rfl (by omega) rfl (arr_wd ht ck.2.1 rfl) (by decide) (fun _ => rfl) (fun _ => rfl) (fun z => ?_)
          unfold ce_
          rw [show kd_ (mk_ (nx_ h) 17 n.toNatClampNeg) = 17 from hkd, show ln_ (mk_ (nx_ h) 17 n.toNatClampNeg) = n.toNatClampNeg from hln, if_neg (by decide), if_neg (by decide), if_pos (by decide), hI_nw, if_pos rfl]
        case boolean =>
          refine key (ty := .boolean) (k := 18) (t0 := 2) (a0 := (n.toNatClampNeg, .inl (fun _ => 0))) rfl rfl (by omega) rfl (arr_wd ht ck.2.2.1 rfl) (by decide) (fun _ => rfl) (fun _ => rfl) (fun z => ?_)
          unfold ce_
          rw [show kd_ (mk_ (nx_ h) 18 n.toNatClampNeg) = 18 from hkd, show ln_ (mk_ (nx_ h) 18 n.toNatClampNeg) = n.toNatClampNeg from hln, if_neg (by decide), if_neg (by decide), if_pos (by decide), hI_nw, if_pos rfl]
        case long =>
          refine key (ty := .long) (k := 19) (t0 := 3) (a0 := (n.toNatClampNeg, .inr (.inl (fun _ => 0)))) rfl rfl (by omega) rfl (arr_wd ht ck.2.2.2 rfl) (by decide) (fun _ => rfl) (fun _ => rfl) (fun z => ?_)
          unfold ce_
          rw [show kd_ (mk_ (nx_ h) 19 n.toNatClampNeg) = 19 from hkd, show ln_ (mk_ (nx_ h) 19 n.toNatClampNeg) = n.toNatClampNeg from hln, if_neg (by decide), if_pos (by decide), hL_nw, if_pos rfl]
        all_goals exact absurd h63 (by decide)
      · cases hv
    · cases hv
  · cases lok_eq hlk0
    unfold exh_ at hv
    dsimp only at hv
    split at hv
    · rename_i e9 c9 j9 n r hcl
      have hcr : ∀ z ∈ r, vc_ L h z := fun z hz => hc2 z (List.mem_cons_of_mem _ hz)
      split at hv
      · rename_i hcond
        obtain ⟨h0, h4, hcc⟩ := hcond
        cases hv
        rw [nx_nw] at hrc
        rw [sl_nw] at hrs
        have hneg : ¬ n < 0 := by rw [Int32.lt_iff_toInt_lt]; show ¬ n.toInt < 0; omega
        have hck := cls_mem (kap_lt hq200) hcl
        have key : ∀ {k t0 : Nat} {C9 : String}, (if c9 = 0 then 20 else if c9 = 4 then 21 else 22) = k → (20 ≤ k ∧ k ≤ 22) → (tys_ cy)[t0]? = some (cy k, .object C9) → (Cond.classLink (clnm_ (kap_ q)) x C9).before args s = true → va_AO C9 s → W p l e R s m args below meth c H locs (nx_ h - n0) (sl_ h - s0) Q (F0 m pc la (((.inl n :: r) : List AV).map (cv_ ad op))) := by
          intro k t0 C9 hk hkk ht0 hlink hao
          rw [hk] at K
          refine va_newq hx hb ho hlink hao hK0 hR.1 hR.2.1 hS hA hneg rfl (by omega) (by omega) (by omega) hd (fun z cA H1 hK1 hP1 hD1 hS1 => ?_)
          have hcA : cA = cy k := by
            obtain ⟨-, -, -, -, -, g1⟩ := (hK1.2 7 (cA, .object C9) rfl).2
            obtain ⟨-, -, -, -, -, g2⟩ := (hK0.2 t0 _ ht0).2
            exact Option.some.inj (g1.symm.trans g2)
          subst hcA
          refine nwc_end (K := K) (Or.inr ⟨by omega, by omega⟩) h4 hR hL4 e1 hKC hL hc1 hcr hF hn hs z _ H1 ?_ hP1 hD1 hS1
          unfold ce_
          rw [kd_mk (by omega), ln_mk (by omega) h4, if_neg (by omega), if_neg (by omega), if_neg (by omega), hR_nw, if_pos rfl]
          rfl
        unfold ckc_ at hck
        simp only [Bool.or_eq_true, Bool.and_eq_true, decide_eq_true_iff] at hck
        rcases hcc with rfl | rfl | rfl
        · rcases hck with (⟨-, hw⟩ | ⟨z, -⟩) | ⟨z, -⟩
          · exact key (k := 20) (t0 := 4) rfl (by omega) rfl (gw_ ht hw rfl) hKC.2.1.2.2.1
          · cases z
          · cases z
        · rcases hck with (⟨-, hw⟩ | ⟨z, -⟩) | ⟨z, -⟩
          · exact key (k := 21) (t0 := 5) rfl (by omega) rfl (gw_ ht hw rfl) hKC.2.1.2.2.2.1
          · cases z
          · cases z
        · rcases hck with (⟨z, -⟩ | ⟨-, hw⟩) | ⟨z, -⟩
          · omega
          · exact key (k := 22) (t0 := 6) rfl (by omega) rfl (gw_ ht hw rfl) hKC.2.1.2.2.2.2
          · cases z
      · cases hv
    · cases hv
  · cases lok_eq hlk0
    unfold exh_ at hv
    dsimp only at hv
    split at hv
    · rename_i c9 j9 hcl
      split at hv
      · rename_i h16
        cases hv
        rw [nx_nw] at hrc
        rw [sl_nw] at hrs
        have hck := cls_mem (kap_lt hq200) hcl
        unfold ckc_ at hck
        simp only [Bool.or_eq_true, Bool.and_eq_true, decide_eq_true_iff] at hck
        rcases hck with (⟨h9, hw⟩ | ⟨z, -⟩) | ⟨z, -⟩
        · have hiw := List.all_eq_true.mp inw_ck c9 (List.mem_range.mpr h9)
          simp only [Bool.and_eq_true, decide_eq_true_iff] at hiw
          refine va_new (fs := fs_ (adn_ ad (mk_ (nx_ h) c9 0) 0) (nw_ h c9 0 (nfl_ c9)) (mk_ (nx_ h) c9 0)) hx hb ht (lay_in h9) (ty_ c9) (ty_ok h9) ho (gw_ ht hw rfl) (gw_ ht hiw.1 rfl) (gw_ ht hiw.2 rfl) hK0 hR.1 hR.2.1 hS hA (vw_at h9) (fun j hj => ?_) (by omega) (by omega) hd (fun z H1 hP1 hD1 hS1 => ?_)
          · have hkd : kd_ (mk_ (nx_ h) c9 0) = c9 := kd_mk (by omega)
            unfold vp_V
            rw [List.getD_eq_getElem?_getD, fs_at (by rw [hkd]; exact hj), hkd, hR_nw, hI_nw, hL_nw, if_pos rfl, if_pos rfl, if_pos rfl]
            unfold ty_
            rcases fT_spec (ft_ok h9 hj) with ⟨e8, e7⟩ | ⟨e8, e7⟩ | ⟨e8, ty, e7, e6⟩ | ⟨e8, e7⟩ | ⟨e8, e7⟩ <;> rw [e8, e7]
            · rfl
            · rfl
            · rcases e6 with ⟨n9, rfl⟩ | ⟨n9, rfl⟩ <;> rfl
            · rfl
            · rfl
          · refine nwc_end (K := K) (Or.inl h9) (by omega) hR hL4 e1 hKC hL hc1 hc2 hF hn hs z _ H1 ?_ hP1 hD1 hS1
            unfold ce_
            have hkd : kd_ (mk_ (nx_ h) c9 0) = c9 := kd_mk (by omega)
            rw [hkd, if_pos h16]
            congr 2
            unfold fs_
            simp only [hR_nw, if_true, Option.map_none]
        · omega
        · omega
      · cases hv
    · cases hv
end HPC
end
