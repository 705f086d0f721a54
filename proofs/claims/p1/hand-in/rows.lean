section
-- ===== PART A: goes FIRST, ahead of the names: the tables' words, and 'selects' of the private methods out of them =====
/-- a private method of a class that the tables say can be made, by its rows of tables_1 -/
def lw_okq (q : MethodName × Nat) : Prop := (q.1.cls ≠ "java/lang/invoke/MethodHandle" ∧ q.1.cls ≠ "java/lang/invoke/VarHandle") ∧ Cond.instantiable q.1.cls q.2 ∈ tables_1 ∧ Cond.privateMethod q.1 ∈ tables_1 ∧ Cond.instanceMethod q.1 ∈ tables_1
theorem lw_p0 : lw_okq (⟨"EqualTerms$Text", "firstWrong", "(ZZ)I"⟩, 4) := ⟨⟨by decide +kernel, by decide +kernel⟩, List.mem_of_getElem? (i := 27) (by decide +kernel), List.mem_of_getElem? (i := 250) (by decide +kernel), List.mem_of_getElem? (i := 251) (by decide +kernel)⟩
theorem lw_p1 : lw_okq (⟨"EqualTerms$Text", "partsInRule", "(I)I"⟩, 4) := ⟨⟨by decide +kernel, by decide +kernel⟩, List.mem_of_getElem? (i := 27) (by decide +kernel), List.mem_of_getElem? (i := 254) (by decide +kernel), List.mem_of_getElem? (i := 255) (by decide +kernel)⟩
theorem lw_p2 : lw_okq (⟨"EqualTerms$Text", "inFirstSide", "(I)Z"⟩, 4) := ⟨⟨by decide +kernel, by decide +kernel⟩, List.mem_of_getElem? (i := 27) (by decide +kernel), List.mem_of_getElem? (i := 261) (by decide +kernel), List.mem_of_getElem? (i := 262) (by decide +kernel)⟩
theorem lw_p3 : lw_okq (⟨"EqualTerms$Text", "noteWrong", "(I)Z"⟩, 4) := ⟨⟨by decide +kernel, by decide +kernel⟩, List.mem_of_getElem? (i := 27) (by decide +kernel), List.mem_of_getElem? (i := 273) (by decide +kernel), List.mem_of_getElem? (i := 274) (by decide +kernel)⟩
theorem lw_p4 : lw_okq (⟨"java/lang/Throwable", "fillInStackTrace", "(I)Ljava/lang/Throwable;"⟩, 6) := ⟨⟨by decide +kernel, by decide +kernel⟩, List.mem_of_getElem? (i := 314) (by decide +kernel), List.mem_of_getElem? (i := 312) (by decide +kernel), List.mem_of_getElem? (i := 313) (by decide +kernel)⟩
theorem lw_p5 : lw_okq (⟨"EqualTerms", "demandTerm", "()V"⟩, 7) := ⟨⟨by decide +kernel, by decide +kernel⟩, List.mem_of_getElem? (i := 19) (by decide +kernel), List.mem_of_getElem? (i := 412) (by decide +kernel), List.mem_of_getElem? (i := 413) (by decide +kernel)⟩
theorem lw_p6 : lw_okq (⟨"EqualTerms$Graph", "nodeAmong", "(IIII)I"⟩, 8) := ⟨⟨by decide +kernel, by decide +kernel⟩, List.mem_of_getElem? (i := 54) (by decide +kernel), List.mem_of_getElem? (i := 431) (by decide +kernel), List.mem_of_getElem? (i := 432) (by decide +kernel)⟩
theorem lw_p7 : lw_okq (⟨"EqualTerms$Graph", "putNode", "(IIIII)V"⟩, 8) := ⟨⟨by decide +kernel, by decide +kernel⟩, List.mem_of_getElem? (i := 54) (by decide +kernel), List.mem_of_getElem? (i := 435) (by decide +kernel), List.mem_of_getElem? (i := 436) (by decide +kernel)⟩
theorem lw_p8 : lw_okq (⟨"EqualTerms$Graph", "nameAllByNumber", "()V"⟩, 8) := ⟨⟨by decide +kernel, by decide +kernel⟩, List.mem_of_getElem? (i := 54) (by decide +kernel), List.mem_of_getElem? (i := 443) (by decide +kernel), List.mem_of_getElem? (i := 444) (by decide +kernel)⟩
theorem lw_p9 : lw_okq (⟨"EqualTerms", "demandEquation", "()V"⟩, 7) := ⟨⟨by decide +kernel, by decide +kernel⟩, List.mem_of_getElem? (i := 19) (by decide +kernel), List.mem_of_getElem? (i := 455) (by decide +kernel), List.mem_of_getElem? (i := 456) (by decide +kernel)⟩
theorem lw_p10 : lw_okq (⟨"EqualTerms$Graph", "rename", "()V"⟩, 8) := ⟨⟨by decide +kernel, by decide +kernel⟩, List.mem_of_getElem? (i := 54) (by decide +kernel), List.mem_of_getElem? (i := 473) (by decide +kernel), List.mem_of_getElem? (i := 474) (by decide +kernel)⟩
theorem lw_p11 : lw_okq (⟨"EqualTerms$Graph", "mergeTwins", "()Z"⟩, 8) := ⟨⟨by decide +kernel, by decide +kernel⟩, List.mem_of_getElem? (i := 54) (by decide +kernel), List.mem_of_getElem? (i := 477) (by decide +kernel), List.mem_of_getElem? (i := 478) (by decide +kernel)⟩
theorem lw_p12 : lw_okq (⟨"EqualTerms$Graph", "renumber", "()V"⟩, 8) := ⟨⟨by decide +kernel, by decide +kernel⟩, List.mem_of_getElem? (i := 54) (by decide +kernel), List.mem_of_getElem? (i := 482) (by decide +kernel), List.mem_of_getElem? (i := 483) (by decide +kernel)⟩
theorem lw_p13 : lw_okq (⟨"EqualTerms$Round", "listNodes", "()V"⟩, 6) := ⟨⟨by decide +kernel, by decide +kernel⟩, List.mem_of_getElem? (i := 116) (by decide +kernel), List.mem_of_getElem? (i := 518) (by decide +kernel), List.mem_of_getElem? (i := 519) (by decide +kernel)⟩
theorem lw_p14 : lw_okq (⟨"EqualTerms$Round", "fitFrom", "(LEqualTerms$Rule;I)Z"⟩, 6) := ⟨⟨by decide +kernel, by decide +kernel⟩, List.mem_of_getElem? (i := 116) (by decide +kernel), List.mem_of_getElem? (i := 522) (by decide +kernel), List.mem_of_getElem? (i := 523) (by decide +kernel)⟩
theorem lw_p15 : lw_okq (⟨"EqualTerms$Round", "joinSides", "(LEqualTerms$Rule;)Z"⟩, 6) := ⟨⟨by decide +kernel, by decide +kernel⟩, List.mem_of_getElem? (i := 116) (by decide +kernel), List.mem_of_getElem? (i := 526) (by decide +kernel), List.mem_of_getElem? (i := 527) (by decide +kernel)⟩
def lw_privs_1 : List (MethodName × Nat) := [(⟨"EqualTerms$Text", "firstWrong", "(ZZ)I"⟩, 4), (⟨"EqualTerms$Text", "partsInRule", "(I)I"⟩, 4), (⟨"EqualTerms$Text", "inFirstSide", "(I)Z"⟩, 4), (⟨"EqualTerms$Text", "noteWrong", "(I)Z"⟩, 4), (⟨"java/lang/Throwable", "fillInStackTrace", "(I)Ljava/lang/Throwable;"⟩, 6), (⟨"EqualTerms", "demandTerm", "()V"⟩, 7), (⟨"EqualTerms$Graph", "nodeAmong", "(IIII)I"⟩, 8), (⟨"EqualTerms$Graph", "putNode", "(IIIII)V"⟩, 8), (⟨"EqualTerms$Graph", "nameAllByNumber", "()V"⟩, 8), (⟨"EqualTerms", "demandEquation", "()V"⟩, 7), (⟨"EqualTerms$Graph", "rename", "()V"⟩, 8), (⟨"EqualTerms$Graph", "mergeTwins", "()Z"⟩, 8), (⟨"EqualTerms$Graph", "renumber", "()V"⟩, 8), (⟨"EqualTerms$Round", "listNodes", "()V"⟩, 6), (⟨"EqualTerms$Round", "fitFrom", "(LEqualTerms$Rule;I)Z"⟩, 6), (⟨"EqualTerms$Round", "joinSides", "(LEqualTerms$Rule;)Z"⟩, 6)]
theorem lw_r1 : ∀ q ∈ lw_privs_1, lw_okq q := List.forall_mem_cons.mpr ⟨lw_p0, List.forall_mem_cons.mpr ⟨lw_p1, List.forall_mem_cons.mpr ⟨lw_p2, List.forall_mem_cons.mpr ⟨lw_p3, List.forall_mem_cons.mpr ⟨lw_p4, List.forall_mem_cons.mpr ⟨lw_p5, List.forall_mem_cons.mpr ⟨lw_p6, List.forall_mem_cons.mpr ⟨lw_p7, List.forall_mem_cons.mpr ⟨lw_p8, List.forall_mem_cons.mpr ⟨lw_p9, List.forall_mem_cons.mpr ⟨lw_p10, List.forall_mem_cons.mpr ⟨lw_p11, List.forall_mem_cons.mpr ⟨lw_p12, List.forall_mem_cons.mpr ⟨lw_p13, List.forall_mem_cons.mpr ⟨lw_p14, List.forall_mem_cons.mpr ⟨lw_p15, fun _ h => absurd h List.not_mem_nil⟩⟩⟩⟩⟩⟩⟩⟩⟩⟩⟩⟩⟩⟩⟩⟩
theorem lw_p16 : lw_okq (⟨"EqualTerms$Round", "seatParts", "(LEqualTerms$Rule;II)V"⟩, 6) := ⟨⟨by decide +kernel, by decide +kernel⟩, List.mem_of_getElem? (i := 116) (by decide +kernel), List.mem_of_getElem? (i := 533) (by decide +kernel), List.mem_of_getElem? (i := 534) (by decide +kernel)⟩
theorem lw_p17 : lw_okq (⟨"EqualTerms", "takeTerm", "()I"⟩, 7) := ⟨⟨by decide +kernel, by decide +kernel⟩, List.mem_of_getElem? (i := 19) (by decide +kernel), List.mem_of_getElem? (i := 547) (by decide +kernel), List.mem_of_getElem? (i := 548) (by decide +kernel)⟩
theorem lw_p18 : lw_okq (⟨"EqualTerms$Cheapest", "weighNode", "(I)Z"⟩, 6) := ⟨⟨by decide +kernel, by decide +kernel⟩, List.mem_of_getElem? (i := 142) (by decide +kernel), List.mem_of_getElem? (i := 571) (by decide +kernel), List.mem_of_getElem? (i := 572) (by decide +kernel)⟩
theorem lw_p19 : lw_okq (⟨"EqualTerms$Cheapest", "costThrough", "(I)J"⟩, 6) := ⟨⟨by decide +kernel, by decide +kernel⟩, List.mem_of_getElem? (i := 142) (by decide +kernel), List.mem_of_getElem? (i := 575) (by decide +kernel), List.mem_of_getElem? (i := 576) (by decide +kernel)⟩
theorem lw_p20 : lw_okq (⟨"EqualTerms$Cheapest", "lengthThrough", "(I)J"⟩, 6) := ⟨⟨by decide +kernel, by decide +kernel⟩, List.mem_of_getElem? (i := 142) (by decide +kernel), List.mem_of_getElem? (i := 583) (by decide +kernel), List.mem_of_getElem? (i := 584) (by decide +kernel)⟩
theorem lw_p21 : lw_okq (⟨"EqualTerms$Cheapest", "isBest", "(I)Z"⟩, 6) := ⟨⟨by decide +kernel, by decide +kernel⟩, List.mem_of_getElem? (i := 142) (by decide +kernel), List.mem_of_getElem? (i := 601) (by decide +kernel), List.mem_of_getElem? (i := 602) (by decide +kernel)⟩
theorem lw_p22 : lw_okq (⟨"EqualTerms$Cheapest", "spellNode", "(II)V"⟩, 6) := ⟨⟨by decide +kernel, by decide +kernel⟩, List.mem_of_getElem? (i := 142) (by decide +kernel), List.mem_of_getElem? (i := 605) (by decide +kernel), List.mem_of_getElem? (i := 606) (by decide +kernel)⟩
theorem lw_p23 : lw_okq (⟨"EqualTerms$Cheapest", "appendTerm", "(II)I"⟩, 6) := ⟨⟨by decide +kernel, by decide +kernel⟩, List.mem_of_getElem? (i := 142) (by decide +kernel), List.mem_of_getElem? (i := 609) (by decide +kernel), List.mem_of_getElem? (i := 610) (by decide +kernel)⟩
theorem lw_p24 : lw_okq (⟨"EqualTerms$Cheapest", "trialComesBefore", "([II)Z"⟩, 6) := ⟨⟨by decide +kernel, by decide +kernel⟩, List.mem_of_getElem? (i := 142) (by decide +kernel), List.mem_of_getElem? (i := 614) (by decide +kernel), List.mem_of_getElem? (i := 615) (by decide +kernel)⟩
theorem lw_p25 : lw_okq (⟨"EqualTermsModel", "readBoth", "(IZ)I"⟩, 33) := ⟨⟨by decide +kernel, by decide +kernel⟩, List.mem_of_getElem? (i := 623) (by decide +kernel), List.mem_of_getElem? (i := 758) (by decide +kernel), List.mem_of_getElem? (i := 759) (by decide +kernel)⟩
theorem lw_p26 : lw_okq (⟨"EqualTermsModel", "readSide", "(II)Z"⟩, 33) := ⟨⟨by decide +kernel, by decide +kernel⟩, List.mem_of_getElem? (i := 623) (by decide +kernel), List.mem_of_getElem? (i := 762) (by decide +kernel), List.mem_of_getElem? (i := 763) (by decide +kernel)⟩
theorem lw_p27 : lw_okq (⟨"EqualTermsModel", "fail", "()Z"⟩, 33) := ⟨⟨by decide +kernel, by decide +kernel⟩, List.mem_of_getElem? (i := 623) (by decide +kernel), List.mem_of_getElem? (i := 766) (by decide +kernel), List.mem_of_getElem? (i := 767) (by decide +kernel)⟩
theorem lw_p28 : lw_okq (⟨"EqualTermsModel", "refuse", "(I)I"⟩, 33) := ⟨⟨by decide +kernel, by decide +kernel⟩, List.mem_of_getElem? (i := 623) (by decide +kernel), List.mem_of_getElem? (i := 773) (by decide +kernel), List.mem_of_getElem? (i := 774) (by decide +kernel)⟩
theorem lw_p29 : lw_okq (⟨"EqualTermsModel", "readTerm", "()Z"⟩, 33) := ⟨⟨by decide +kernel, by decide +kernel⟩, List.mem_of_getElem? (i := 623) (by decide +kernel), List.mem_of_getElem? (i := 781) (by decide +kernel), List.mem_of_getElem? (i := 782) (by decide +kernel)⟩
theorem lw_p30 : lw_okq (⟨"EqualTermsModel", "workText", "(III)I"⟩, 33) := ⟨⟨by decide +kernel, by decide +kernel⟩, List.mem_of_getElem? (i := 623) (by decide +kernel), List.mem_of_getElem? (i := 785) (by decide +kernel), List.mem_of_getElem? (i := 786) (by decide +kernel)⟩
theorem lw_p31 : lw_okq (⟨"EqualTermsModel", "push", "(II)Z"⟩, 33) := ⟨⟨by decide +kernel, by decide +kernel⟩, List.mem_of_getElem? (i := 623) (by decide +kernel), List.mem_of_getElem? (i := 789) (by decide +kernel), List.mem_of_getElem? (i := 790) (by decide +kernel)⟩
def lw_privs_2 : List (MethodName × Nat) := [(⟨"EqualTerms$Round", "seatParts", "(LEqualTerms$Rule;II)V"⟩, 6), (⟨"EqualTerms", "takeTerm", "()I"⟩, 7), (⟨"EqualTerms$Cheapest", "weighNode", "(I)Z"⟩, 6), (⟨"EqualTerms$Cheapest", "costThrough", "(I)J"⟩, 6), (⟨"EqualTerms$Cheapest", "lengthThrough", "(I)J"⟩, 6), (⟨"EqualTerms$Cheapest", "isBest", "(I)Z"⟩, 6), (⟨"EqualTerms$Cheapest", "spellNode", "(II)V"⟩, 6), (⟨"EqualTerms$Cheapest", "appendTerm", "(II)I"⟩, 6), (⟨"EqualTerms$Cheapest", "trialComesBefore", "([II)Z"⟩, 6), (⟨"EqualTermsModel", "readBoth", "(IZ)I"⟩, 33), (⟨"EqualTermsModel", "readSide", "(II)Z"⟩, 33), (⟨"EqualTermsModel", "fail", "()Z"⟩, 33), (⟨"EqualTermsModel", "refuse", "(I)I"⟩, 33), (⟨"EqualTermsModel", "readTerm", "()Z"⟩, 33), (⟨"EqualTermsModel", "workText", "(III)I"⟩, 33), (⟨"EqualTermsModel", "push", "(II)Z"⟩, 33)]
theorem lw_r2 : ∀ q ∈ lw_privs_2, lw_okq q := List.forall_mem_cons.mpr ⟨lw_p16, List.forall_mem_cons.mpr ⟨lw_p17, List.forall_mem_cons.mpr ⟨lw_p18, List.forall_mem_cons.mpr ⟨lw_p19, List.forall_mem_cons.mpr ⟨lw_p20, List.forall_mem_cons.mpr ⟨lw_p21, List.forall_mem_cons.mpr ⟨lw_p22, List.forall_mem_cons.mpr ⟨lw_p23, List.forall_mem_cons.mpr ⟨lw_p24, List.forall_mem_cons.mpr ⟨lw_p25, List.forall_mem_cons.mpr ⟨lw_p26, List.forall_mem_cons.mpr ⟨lw_p27, List.forall_mem_cons.mpr ⟨lw_p28, List.forall_mem_cons.mpr ⟨lw_p29, List.forall_mem_cons.mpr ⟨lw_p30, List.forall_mem_cons.mpr ⟨lw_p31, fun _ h => absurd h List.not_mem_nil⟩⟩⟩⟩⟩⟩⟩⟩⟩⟩⟩⟩⟩⟩⟩⟩
theorem lw_p32 : lw_okq (⟨"EqualTermsModel", "classOf", "(IIII)I"⟩, 33) := ⟨⟨by decide +kernel, by decide +kernel⟩, List.mem_of_getElem? (i := 623) (by decide +kernel), List.mem_of_getElem? (i := 793) (by decide +kernel), List.mem_of_getElem? (i := 794) (by decide +kernel)⟩
theorem lw_p33 : lw_okq (⟨"EqualTermsModel", "findNode", "(III)I"⟩, 33) := ⟨⟨by decide +kernel, by decide +kernel⟩, List.mem_of_getElem? (i := 623) (by decide +kernel), List.mem_of_getElem? (i := 797) (by decide +kernel), List.mem_of_getElem? (i := 798) (by decide +kernel)⟩
theorem lw_p34 : lw_okq (⟨"EqualTermsModel", "cut", "(II)V"⟩, 33) := ⟨⟨by decide +kernel, by decide +kernel⟩, List.mem_of_getElem? (i := 623) (by decide +kernel), List.mem_of_getElem? (i := 801) (by decide +kernel), List.mem_of_getElem? (i := 802) (by decide +kernel)⟩
theorem lw_p35 : lw_okq (⟨"EqualTermsModel", "joinClasses", "(II)V"⟩, 33) := ⟨⟨by decide +kernel, by decide +kernel⟩, List.mem_of_getElem? (i := 623) (by decide +kernel), List.mem_of_getElem? (i := 809) (by decide +kernel), List.mem_of_getElem? (i := 810) (by decide +kernel)⟩
theorem lw_p36 : lw_okq (⟨"EqualTermsModel", "close", "()V"⟩, 33) := ⟨⟨by decide +kernel, by decide +kernel⟩, List.mem_of_getElem? (i := 623) (by decide +kernel), List.mem_of_getElem? (i := 813) (by decide +kernel), List.mem_of_getElem? (i := 814) (by decide +kernel)⟩
theorem lw_p37 : lw_okq (⟨"EqualTermsModel", "labelOf", "(I)I"⟩, 33) := ⟨⟨by decide +kernel, by decide +kernel⟩, List.mem_of_getElem? (i := 623) (by decide +kernel), List.mem_of_getElem? (i := 817) (by decide +kernel), List.mem_of_getElem? (i := 818) (by decide +kernel)⟩
theorem lw_p38 : lw_okq (⟨"EqualTermsModel", "removeNode", "(I)V"⟩, 33) := ⟨⟨by decide +kernel, by decide +kernel⟩, List.mem_of_getElem? (i := 623) (by decide +kernel), List.mem_of_getElem? (i := 821) (by decide +kernel), List.mem_of_getElem? (i := 822) (by decide +kernel)⟩
theorem lw_p39 : lw_okq (⟨"EqualTermsModel", "renumber", "()V"⟩, 33) := ⟨⟨by decide +kernel, by decide +kernel⟩, List.mem_of_getElem? (i := 623) (by decide +kernel), List.mem_of_getElem? (i := 825) (by decide +kernel), List.mem_of_getElem? (i := 826) (by decide +kernel)⟩
theorem lw_p40 : lw_okq (⟨"EqualTermsModel", "oneRound", "()I"⟩, 33) := ⟨⟨by decide +kernel, by decide +kernel⟩, List.mem_of_getElem? (i := 623) (by decide +kernel), List.mem_of_getElem? (i := 842) (by decide +kernel), List.mem_of_getElem? (i := 843) (by decide +kernel)⟩
theorem lw_p41 : lw_okq (⟨"EqualTermsModel", "fillTables", "()V"⟩, 33) := ⟨⟨by decide +kernel, by decide +kernel⟩, List.mem_of_getElem? (i := 623) (by decide +kernel), List.mem_of_getElem? (i := 846) (by decide +kernel), List.mem_of_getElem? (i := 847) (by decide +kernel)⟩
theorem lw_p42 : lw_okq (⟨"EqualTermsModel", "fit", "(II)V"⟩, 33) := ⟨⟨by decide +kernel, by decide +kernel⟩, List.mem_of_getElem? (i := 623) (by decide +kernel), List.mem_of_getElem? (i := 853) (by decide +kernel), List.mem_of_getElem? (i := 854) (by decide +kernel)⟩
theorem lw_p43 : lw_okq (⟨"EqualTermsModel", "variablesOf", "(I)I"⟩, 33) := ⟨⟨by decide +kernel, by decide +kernel⟩, List.mem_of_getElem? (i := 623) (by decide +kernel), List.mem_of_getElem? (i := 857) (by decide +kernel), List.mem_of_getElem? (i := 858) (by decide +kernel)⟩
theorem lw_p44 : lw_okq (⟨"EqualTermsModel", "tabled", "(I)I"⟩, 33) := ⟨⟨by decide +kernel, by decide +kernel⟩, List.mem_of_getElem? (i := 623) (by decide +kernel), List.mem_of_getElem? (i := 861) (by decide +kernel), List.mem_of_getElem? (i := 862) (by decide +kernel)⟩
theorem lw_p45 : lw_okq (⟨"EqualTermsModel", "workSide", "(II)I"⟩, 33) := ⟨⟨by decide +kernel, by decide +kernel⟩, List.mem_of_getElem? (i := 623) (by decide +kernel), List.mem_of_getElem? (i := 865) (by decide +kernel), List.mem_of_getElem? (i := 866) (by decide +kernel)⟩
theorem lw_p46 : lw_okq (⟨"EqualTermsModel", "nextChoice", "(II)Z"⟩, 33) := ⟨⟨by decide +kernel, by decide +kernel⟩, List.mem_of_getElem? (i := 623) (by decide +kernel), List.mem_of_getElem? (i := 869) (by decide +kernel), List.mem_of_getElem? (i := 870) (by decide +kernel)⟩
theorem lw_p47 : lw_okq (⟨"EqualTermsModel", "asked", "()I"⟩, 33) := ⟨⟨by decide +kernel, by decide +kernel⟩, List.mem_of_getElem? (i := 623) (by decide +kernel), List.mem_of_getElem? (i := 885) (by decide +kernel), List.mem_of_getElem? (i := 886) (by decide +kernel)⟩
def lw_privs_3 : List (MethodName × Nat) := [(⟨"EqualTermsModel", "classOf", "(IIII)I"⟩, 33), (⟨"EqualTermsModel", "findNode", "(III)I"⟩, 33), (⟨"EqualTermsModel", "cut", "(II)V"⟩, 33), (⟨"EqualTermsModel", "joinClasses", "(II)V"⟩, 33), (⟨"EqualTermsModel", "close", "()V"⟩, 33), (⟨"EqualTermsModel", "labelOf", "(I)I"⟩, 33), (⟨"EqualTermsModel", "removeNode", "(I)V"⟩, 33), (⟨"EqualTermsModel", "renumber", "()V"⟩, 33), (⟨"EqualTermsModel", "oneRound", "()I"⟩, 33), (⟨"EqualTermsModel", "fillTables", "()V"⟩, 33), (⟨"EqualTermsModel", "fit", "(II)V"⟩, 33), (⟨"EqualTermsModel", "variablesOf", "(I)I"⟩, 33), (⟨"EqualTermsModel", "tabled", "(I)I"⟩, 33), (⟨"EqualTermsModel", "workSide", "(II)I"⟩, 33), (⟨"EqualTermsModel", "nextChoice", "(II)Z"⟩, 33), (⟨"EqualTermsModel", "asked", "()I"⟩, 33)]
theorem lw_r3 : ∀ q ∈ lw_privs_3, lw_okq q := List.forall_mem_cons.mpr ⟨lw_p32, List.forall_mem_cons.mpr ⟨lw_p33, List.forall_mem_cons.mpr ⟨lw_p34, List.forall_mem_cons.mpr ⟨lw_p35, List.forall_mem_cons.mpr ⟨lw_p36, List.forall_mem_cons.mpr ⟨lw_p37, List.forall_mem_cons.mpr ⟨lw_p38, List.forall_mem_cons.mpr ⟨lw_p39, List.forall_mem_cons.mpr ⟨lw_p40, List.forall_mem_cons.mpr ⟨lw_p41, List.forall_mem_cons.mpr ⟨lw_p42, List.forall_mem_cons.mpr ⟨lw_p43, List.forall_mem_cons.mpr ⟨lw_p44, List.forall_mem_cons.mpr ⟨lw_p45, List.forall_mem_cons.mpr ⟨lw_p46, List.forall_mem_cons.mpr ⟨lw_p47, fun _ h => absurd h List.not_mem_nil⟩⟩⟩⟩⟩⟩⟩⟩⟩⟩⟩⟩⟩⟩⟩⟩
theorem lw_p48 : lw_okq (⟨"EqualTermsModel", "findBest", "()V"⟩, 33) := ⟨⟨by decide +kernel, by decide +kernel⟩, List.mem_of_getElem? (i := 623) (by decide +kernel), List.mem_of_getElem? (i := 894) (by decide +kernel), List.mem_of_getElem? (i := 895) (by decide +kernel)⟩
theorem lw_p49 : lw_okq (⟨"EqualTermsModel", "append", "(I)V"⟩, 33) := ⟨⟨by decide +kernel, by decide +kernel⟩, List.mem_of_getElem? (i := 623) (by decide +kernel), List.mem_of_getElem? (i := 899) (by decide +kernel), List.mem_of_getElem? (i := 900) (by decide +kernel)⟩
theorem lw_p50 : lw_okq (⟨"EqualTermsModel", "isBetter", "(I)Z"⟩, 33) := ⟨⟨by decide +kernel, by decide +kernel⟩, List.mem_of_getElem? (i := 623) (by decide +kernel), List.mem_of_getElem? (i := 908) (by decide +kernel), List.mem_of_getElem? (i := 909) (by decide +kernel)⟩
def lw_privs_4 : List (MethodName × Nat) := [(⟨"EqualTermsModel", "findBest", "()V"⟩, 33), (⟨"EqualTermsModel", "append", "(I)V"⟩, 33), (⟨"EqualTermsModel", "isBetter", "(I)Z"⟩, 33)]
theorem lw_r4 : ∀ q ∈ lw_privs_4, lw_okq q := List.forall_mem_cons.mpr ⟨lw_p48, List.forall_mem_cons.mpr ⟨lw_p49, List.forall_mem_cons.mpr ⟨lw_p50, fun _ h => absurd h List.not_mem_nil⟩⟩⟩
def lw_privs : List (MethodName × Nat) := lw_privs_1 ++ (lw_privs_2 ++ (lw_privs_3 ++ (lw_privs_4)))
def lw_tbl : List Cond := k2_sels lw_privs ++ tables_1
theorem lw_privs_ok : ∀ q ∈ lw_privs, lw_okq q := by
  show ∀ q ∈ lw_privs_1 ++ (lw_privs_2 ++ (lw_privs_3 ++ (lw_privs_4))), lw_okq q
  exact List.forall_mem_append.mpr ⟨lw_r1, List.forall_mem_append.mpr ⟨lw_r2, List.forall_mem_append.mpr ⟨lw_r3, lw_r4⟩⟩⟩
end
section
/-! ===== my names: the words that stay true in every callee; classes; methods ===== -/
def et_gd (w : Cond) : Bool := (w.onTables && w.keeps) || (match w with | .arrayClass _ => true | _ => false)
def et_W : List Cond := lw_tbl.filter et_gd
theorem et_good : ∀ w ∈ et_W, (w.onTables && w.keeps) = true ∨ ∃ ty, w = .arrayClass ty := by
  intro w hw
  have h := (List.mem_filter.mp hw).2
  unfold et_gd at h
  rcases Bool.or_eq_true_iff.mp h with h1 | h1
  · exact Or.inl h1
  · cases w <;> first | exact Or.inr ⟨_, rfl⟩ | cases h1
theorem et_in {w : Cond} (i : Nat) (h : lw_tbl[i]? = some w) (hg : et_gd w = true) : w ∈ et_W := List.mem_filter.mpr ⟨List.mem_of_getElem? h, hg⟩
theorem et_ins {ws : List Cond} (ps : List Nat) (hp : ws = ps.filterMap (fun i => lw_tbl[i]?)) (hg : ws.all et_gd = true) : ∀ w ∈ ws, w ∈ et_W := by
  intro w hw
  have h1 := List.all_eq_true.mp hg w hw
  rw [hp] at hw
  obtain ⟨i, -, hi⟩ := List.mem_filterMap.mp hw
  exact et_in i hi h1
def F_C : u_T := fun k => match k with
  | 0 => ("EqualTerms$Cheapest", "prices", "[I", true)
  | 1 => ("EqualTerms$Cheapest", "costs", "[J", true)
  | 2 => ("EqualTerms$Cheapest", "lengths", "[J", true)
  | 3 => ("EqualTerms$Cheapest", "terms", "[[I", true)
  | 4 => ("EqualTerms$Cheapest", "graph", "LEqualTerms$Graph;", true)
  | _ => ("EqualTerms$Cheapest", "trial", "[I", true)
def ft_C : Nat → FieldType := fun k => match k with
  | 0 => .array .int
  | 1 => .array .long
  | 2 => .array .long
  | 3 => .array (.array .int)
  | 4 => .object "EqualTerms$Graph"
  | _ => .array .int
theorem nm_C : ∀ a, a < 6 → ∀ b, b < 6 → a ≠ b → (F_C a).2.1 ≠ (F_C b).2.1 := by decide +kernel
theorem ty_C : ∀ k, k < 6 → parseFieldDescriptor (F_C k).2.2.1 = some (ft_C k) := by decide +kernel
theorem in_C : ∀ w ∈ u_ws "EqualTerms$Cheapest" F_C 6, w ∈ et_W := et_ins [213, 215, 217, 219, 221, 223] (by decide +kernel) (by decide +kernel)
def F_G : u_T := fun k => match k with
  | 0 => ("EqualTerms$Graph", "signs", "[I", true)
  | 1 => ("EqualTerms$Graph", "lefts", "[I", true)
  | 2 => ("EqualTerms$Graph", "rights", "[I", true)
  | 3 => ("EqualTerms$Graph", "homes", "[I", true)
  | 4 => ("EqualTerms$Graph", "nodeCount", "I", false)
  | 5 => ("EqualTerms$Graph", "classCount", "I", false)
  | 6 => ("EqualTerms$Graph", "names", "[I", true)
  | _ => ("EqualTerms$Graph", "numbers", "[I", true)
def ft_G : Nat → FieldType := fun k => match k with
  | 0 => .array .int
  | 1 => .array .int
  | 2 => .array .int
  | 3 => .array .int
  | 4 => .int
  | 5 => .int
  | 6 => .array .int
  | _ => .array .int
theorem nm_G : ∀ a, a < 8 → ∀ b, b < 8 → a ≠ b → (F_G a).2.1 ≠ (F_G b).2.1 := by decide +kernel
theorem ty_G : ∀ k, k < 8 → parseFieldDescriptor (F_G k).2.2.1 = some (ft_G k) := by decide +kernel
theorem in_G : ∀ w ∈ u_ws "EqualTerms$Graph" F_G 8, w ∈ et_W := et_ins [132, 134, 136, 138, 140, 142, 144, 146] (by decide +kernel) (by decide +kernel)
def F_R : u_T := fun k => match k with
  | 0 => ("EqualTerms$Round", "changed", "Z", false)
  | 1 => ("EqualTerms$Round", "graph", "LEqualTerms$Graph;", true)
  | 2 => ("EqualTerms$Round", "walk", "LEqualTerms$Walk;", true)
  | 3 => ("EqualTerms$Round", "seats", "[I", true)
  | 4 => ("EqualTerms$Round", "listed", "[I", true)
  | _ => ("EqualTerms$Round", "begins", "[I", true)
def ft_R : Nat → FieldType := fun k => match k with
  | 0 => .boolean
  | 1 => .object "EqualTerms$Graph"
  | 2 => .object "EqualTerms$Walk"
  | 3 => .array .int
  | 4 => .array .int
  | _ => .array .int
theorem nm_R : ∀ a, a < 6 → ∀ b, b < 6 → a ≠ b → (F_R a).2.1 ≠ (F_R b).2.1 := by decide +kernel
theorem ty_R : ∀ k, k < 6 → parseFieldDescriptor (F_R k).2.2.1 = some (ft_R k) := by decide +kernel
theorem in_R : ∀ w ∈ u_ws "EqualTerms$Round" F_R 6, w ∈ et_W := et_ins [179, 181, 183, 185, 187, 189] (by decide +kernel) (by decide +kernel)
def F_U : u_T := fun k => match k with
  | 0 => ("EqualTerms$Rule", "characters", "[I", true)
  | 1 => ("EqualTerms$Rule", "middle", "I", true)
  | 2 => ("EqualTerms$Rule", "secondPart", "[I", true)
  | _ => ("EqualTerms$Rule", "binds", "[Z", true)
def ft_U : Nat → FieldType := fun k => match k with
  | 0 => .array .int
  | 1 => .int
  | 2 => .array .int
  | _ => .array .boolean
theorem nm_U : ∀ a, a < 4 → ∀ b, b < 4 → a ≠ b → (F_U a).2.1 ≠ (F_U b).2.1 := by decide +kernel
theorem ty_U : ∀ k, k < 4 → parseFieldDescriptor (F_U k).2.2.1 = some (ft_U k) := by decide +kernel
theorem in_U : ∀ w ∈ u_ws "EqualTerms$Rule" F_U 4, w ∈ et_W := et_ins [445, 447, 449, 451] (by decide +kernel) (by decide +kernel)
def F_T : u_T := fun k => match k with
  | 0 => ("EqualTerms$Text", "characters", "[I", true)
  | 1 => ("EqualTerms$Text", "size", "I", false)
  | 2 => ("EqualTerms$Text", "middle", "I", false)
  | _ => ("EqualTerms$Text", "wrongPlace", "I", false)
def ft_T : Nat → FieldType := fun k => match k with
  | 0 => .array .int
  | 1 => .int
  | 2 => .int
  | _ => .int
theorem nm_T : ∀ a, a < 4 → ∀ b, b < 4 → a ≠ b → (F_T a).2.1 ≠ (F_T b).2.1 := by decide +kernel
theorem ty_T : ∀ k, k < 4 → parseFieldDescriptor (F_T k).2.2.1 = some (ft_T k) := by decide +kernel
theorem in_T : ∀ w ∈ u_ws "EqualTerms$Text" F_T 4, w ∈ et_W := et_ins [94, 96, 98, 100] (by decide +kernel) (by decide +kernel)
def F_K : u_T := fun k => match k with
  | 0 => ("EqualTerms$Walk", "variables", "[I", true)
  | 1 => ("EqualTerms$Walk", "graph", "LEqualTerms$Graph;", true)
  | _ => ("EqualTerms$Walk", "stack", "[I", true)
def ft_K : Nat → FieldType := fun k => match k with
  | 0 => .array .int
  | 1 => .object "EqualTerms$Graph"
  | _ => .array .int
theorem nm_K : ∀ a, a < 3 → ∀ b, b < 3 → a ≠ b → (F_K a).2.1 ≠ (F_K b).2.1 := by decide +kernel
theorem ty_K : ∀ k, k < 3 → parseFieldDescriptor (F_K k).2.2.1 = some (ft_K k) := by decide +kernel
theorem in_K : ∀ w ∈ u_ws "EqualTerms$Walk" F_K 3, w ∈ et_W := et_ins [159, 161, 163] (by decide +kernel) (by decide +kernel)
def F_E : u_T := fun k => match k with
  | 0 => ("EqualTerms", "text", "LEqualTerms$Text;", true)
  | 1 => ("EqualTerms", "graph", "LEqualTerms$Graph;", true)
  | 2 => ("EqualTerms", "walk", "LEqualTerms$Walk;", true)
  | 3 => ("EqualTerms", "round", "LEqualTerms$Round;", true)
  | 4 => ("EqualTerms", "cheapest", "LEqualTerms$Cheapest;", true)
  | 5 => ("EqualTerms", "ruleRow", "[LEqualTerms$Rule;", true)
  | _ => ("EqualTerms", "ruleCount", "I", false)
def ft_E : Nat → FieldType := fun k => match k with
  | 0 => .object "EqualTerms$Text"
  | 1 => .object "EqualTerms$Graph"
  | 2 => .object "EqualTerms$Walk"
  | 3 => .object "EqualTerms$Round"
  | 4 => .object "EqualTerms$Cheapest"
  | 5 => .array (.object "EqualTerms$Rule")
  | _ => .int
theorem nm_E : ∀ a, a < 7 → ∀ b, b < 7 → a ≠ b → (F_E a).2.1 ≠ (F_E b).2.1 := by decide +kernel
theorem ty_E : ∀ k, k < 7 → parseFieldDescriptor (F_E k).2.2.1 = some (ft_E k) := by decide +kernel
theorem in_E : ∀ w ∈ u_ws "EqualTerms" F_E 7, w ∈ et_W := et_ins [236, 238, 240, 242, 244, 246, 248] (by decide +kernel) (by decide +kernel)
def F_M : u_T := fun k => match k with
  | 0 => ("EqualTermsModel", "thrown", "I", false)
  | 1 => ("EqualTermsModel", "text", "[I", true)
  | 2 => ("EqualTermsModel", "length", "I", false)
  | 3 => ("EqualTermsModel", "at", "I", false)
  | 4 => ("EqualTermsModel", "wrong", "I", false)
  | 5 => ("EqualTermsModel", "end", "I", false)
  | 6 => ("EqualTermsModel", "allowed", "I", false)
  | 7 => ("EqualTermsModel", "seen", "I", false)
  | 8 => ("EqualTermsModel", "rules", "I", false)
  | 9 => ("EqualTermsModel", "sides", "[I", true)
  | 10 => ("EqualTermsModel", "sizes", "[I", true)
  | 11 => ("EqualTermsModel", "nodes", "I", false)
  | 12 => ("EqualTermsModel", "classes", "I", false)
  | 13 => ("EqualTermsModel", "sign", "[I", true)
  | 14 => ("EqualTermsModel", "first", "[I", true)
  | 15 => ("EqualTermsModel", "second", "[I", true)
  | 16 => ("EqualTermsModel", "owner", "[I", true)
  | 17 => ("EqualTermsModel", "label", "[I", true)
  | 18 => ("EqualTermsModel", "renamed", "[I", true)
  | 19 => ("EqualTermsModel", "united", "Z", false)
  | 20 => ("EqualTermsModel", "row", "[I", true)
  | 21 => ("EqualTermsModel", "rowSize", "I", false)
  | 22 => ("EqualTermsModel", "variable", "[I", true)
  | 23 => ("EqualTermsModel", "leaf", "[I", true)
  | 24 => ("EqualTermsModel", "unary", "[I", true)
  | 25 => ("EqualTermsModel", "binary", "[I", true)
  | 26 => ("EqualTermsModel", "prices", "[I", true)
  | 27 => ("EqualTermsModel", "cost", "[J", true)
  | 28 => ("EqualTermsModel", "size", "[J", true)
  | 29 => ("EqualTermsModel", "best", "[I", true)
  | 30 => ("EqualTermsModel", "draft", "[I", true)
  | 31 => ("EqualTermsModel", "draftCost", "J", false)
  | _ => ("EqualTermsModel", "draftSize", "J", false)
def ft_M : Nat → FieldType := fun k => match k with
  | 0 => .int
  | 1 => .array .int
  | 2 => .int
  | 3 => .int
  | 4 => .int
  | 5 => .int
  | 6 => .int
  | 7 => .int
  | 8 => .int
  | 9 => .array .int
  | 10 => .array .int
  | 11 => .int
  | 12 => .int
  | 13 => .array .int
  | 14 => .array .int
  | 15 => .array .int
  | 16 => .array .int
  | 17 => .array .int
  | 18 => .array .int
  | 19 => .boolean
  | 20 => .array .int
  | 21 => .int
  | 22 => .array .int
  | 23 => .array .int
  | 24 => .array .int
  | 25 => .array .int
  | 26 => .array .int
  | 27 => .array .long
  | 28 => .array .long
  | 29 => .array .int
  | 30 => .array .int
  | 31 => .long
  | _ => .long
theorem nm_M : ∀ a, a < 33 → ∀ b, b < 33 → a ≠ b → (F_M a).2.1 ≠ (F_M b).2.1 := by decide +kernel
theorem ty_M : ∀ k, k < 33 → parseFieldDescriptor (F_M k).2.2.1 = some (ft_M k) := by decide +kernel
theorem in_M : ∀ w ∈ u_ws "EqualTermsModel" F_M 33, w ∈ et_W := et_ins [711, 713, 715, 717, 719, 721, 723, 725, 727, 729, 731, 733, 735, 737, 739, 741, 743, 745, 747, 749, 751, 753, 755, 757, 759, 761, 763, 765, 767, 769, 771, 773, 775] (by decide +kernel) (by decide +kernel)
abbrev et_cl : List vw_C := [("EqualTerms$Cheapest", F_C, 6), ("EqualTerms$Graph", F_G, 8), ("EqualTerms$Round", F_R, 6), ("EqualTerms$Rule", F_U, 4), ("EqualTerms$Text", F_T, 4), ("EqualTerms$Walk", F_K, 3), ("EqualTerms", F_E, 7), ("EqualTermsModel", F_M, 33)]
def et_Rn : String := "EqualTerms$Rule"
def et_tys (dA : Nat → ClassId) : List (ClassId × FieldType) := [(dA 0, .int), (dA 1, .long), (dA 2, .boolean), (dA 3, .object "EqualTerms$Rule"), (dA 4, .array .int)]
def et_isN (w : Cond) : Bool := match w with | .fieldLinkNest .. => true | .methodLinkNest .. => true | .castable .. => true | .declares _ => true | _ => false
def et_NST : List Cond := [.methodLinkNest "EqualTerms" 9 ⟨"EqualTerms$Text", "<init>", "()V"⟩ "EqualTerms", .methodLinkNest "EqualTerms" 18 ⟨"EqualTerms$Graph", "<init>", "()V"⟩ "EqualTerms", .castable "java/lang/IllegalArgumentException" "java/lang/IllegalArgumentException", .declares ⟨"java/lang/RuntimeException", "<init>", "()V"⟩, .declares ⟨"java/lang/RuntimeException", "<init>", "(Ljava/lang/String;)V"⟩, .declares ⟨"java/lang/Exception", "<init>", "()V"⟩, .declares ⟨"java/lang/Exception", "<init>", "(Ljava/lang/String;)V"⟩, .declares ⟨"java/lang/Throwable", "<init>", "()V"⟩, .declares ⟨"java/lang/Throwable", "<init>", "(Ljava/lang/String;)V"⟩, .castable "java/lang/IllegalStateException" "java/lang/IllegalStateException", .castable "[I" "java/lang/Cloneable"]
theorem et_NST_ok : ∀ w ∈ et_NST, et_isN w = true := by decide +kernel
theorem et_NST_in : ∀ w ∈ et_NST, w ∈ lw_tbl := by decide +kernel
def et_STR : List (String × Nat × String) := [("EqualTerms", 81, "the text is no rule"), ("EqualTerms", 88, "there are six rules"), ("EqualTerms", 192, "the text is no term"), ("EqualTerms", 111, "there is no room for the term"), ("EqualTerms", 197, "the text is not two terms"), ("EqualTerms", 119, "there is no room for the terms"), ("EqualTerms", 134, "no sign of a term"), ("EqualTerms", 137, "no price"), ("EqualTerms", 142, "no number of rounds")]
theorem et_STR_in : ∀ q ∈ et_STR, Cond.stringRef q.1 q.2.1 q.2.2 ∈ lw_tbl := by decide +kernel
def et_AOS : List String := ["EqualTerms$Rule"]
def et_exn (k : Nat) : String := match k with | 0 => "java/lang/IllegalArgumentException" | _ => "java/lang/IllegalStateException"
def et_SW : List Cond := [.laysStatic "java/lang/Throwable" "UNASSIGNED_STACK" "[Ljava/lang/StackTraceElement;", .isRef (.static "java/lang/Throwable" "UNASSIGNED_STACK" "[Ljava/lang/StackTraceElement;"), .laysStatic "java/lang/Throwable" "SUPPRESSED_SENTINEL" "Ljava/util/List;", .isRef (.static "java/lang/Throwable" "SUPPRESSED_SENTINEL" "Ljava/util/List;")]
end
section
/-! ===== my contract: a method that returns or throws ===== -/
def et_Q (below : List Frame) (Qc : Array Value → State → Outcome → State → Prop) (a : Array Value) (s : State) (mc ms : Nat) (free : Addr → Prop) : State → Prop := fun t =>
  ∃ o, t.status = .running ∧ Ended t below o ∧ Qc a s o t ∧ s.WarmedH t.vm ∧ ∃ L, s.sameButNew ({ t with vm := s.vm } : State) L mc ms ∧ ∀ q ∈ L, free q.base
def et_Met (l : Launch) (y : MethodName) (ws : List Cond) (rm : Room) (Pc : Array Value → State → Prop) (Qc : Array Value → State → Outcome → State → Prop) (mc ms : Nat) (free : Addr → Prop) : Prop :=
  MetFree l y (headSpec ws rm) Pc (fun _ _ _ _ _ => True) (fun a st o t => Qc a st o t ∧ st.WarmedH t.vm ∧ ∃ L, st.sameButNew ({ t with vm := st.vm } : State) L mc ms ∧ ∀ q ∈ L, free q.base)
theorem et_Q_of {below : List Frame} {Qc : Array Value → State → Outcome → State → Prop} {a : Array Value} {s : State} {mc ms : Nat} {free : Addr → Prop} {t : State} (h : MQ below Qc a s mc ms free t) : et_Q below Qc a s mc ms free t := by
  obtain ⟨o, h1, h2, h3, L, ⟨-, hW, hs⟩, hf⟩ := h
  exact ⟨o, h1, h2, h3, hW, L, hs, hf⟩
/-- the word of a method's code, with or without handlers -/
def et_cw (y : MethodName) (cc : ByteArray) (nL : Nat) (ret : Option FieldType) (hh : List (Nat × Nat × Nat × Nat)) : Cond := match hh with
  | [] => .code y cc nL ret
  | _ :: _ => .codeWith y cc nL ret hh
theorem et_cw_spec {y : MethodName} {cc : ByteArray} {nL : Nat} {ret : Option FieldType} {hh : List (Nat × Nat × Nat × Nat)} {args : Array Value} {s : State} {m : MethodId} (hn : s.methodNamed? y = some m) (h : (et_cw y cc nL ret hh).before args s = true) :
    ∃ meth c, s.vm.method? m = some meth ∧ meth.code = some c ∧ c.code = cc ∧ c.maxLocals = nL ∧ meth.sig.returnType = ret ∧ meth.locks = false ∧ c.exceptionTable.toList.map (fun h => (h.startPc, h.endPc, h.handlerPc, h.catchType)) = hh ∧ parseMethodDescriptor y.desc = some meth.sig := by
  cases hh with
  | nil =>
    obtain ⟨meth, c, h1, h2, h3, h4, h5, h6, h7, h8⟩ := Cond.code_spec hn h
    have h9 : c.exceptionTable = #[] := by simpa using h7
    exact ⟨meth, c, h1, h2, h3, h4, h5, h6, by simp [h9], h8⟩
  | cons x r =>
    obtain ⟨m9, meth, c, hn9, h1, h2, h3, h4, h7, h5, h6, h8⟩ := Cond.codeWith_spec h
    cases hn.symm.trans hn9
    exact ⟨meth, c, h1, h2, h3, h4, h5, h6, h7, h8⟩
theorem et_MetW {l : Launch} {y : MethodName} {ws : List Cond} {rm : Room} {Pc : Array Value → State → Prop} {Qc : Array Value → State → Outcome → State → Prop} {mc ms : Nat} {free : Addr → Prop} {cc : ByteArray} {nL : Nat} {ret : Option FieldType} {hh : List (Nat × Nat × Nat × Nat)}
    (hy : plainName y.cls = true) (hw : et_cw y cc nL ret hh ∈ ws)
    (body : ∀ p e s m args below meth c s₁, BodyLoose p l y (headSpec ws rm) cc nL ret e s m args below meth c s₁ → c.maxLocals = nL → c.exceptionTable.toList.map (fun h => (h.startPc, h.endPc, h.handlerPc, h.catchType)) = hh → Pc args s →
      W p l e (headSpec ws rm).room s m args below meth c s.heap [] 0 0 (et_Q below Qc args s mc ms free) (entryFrame m args nL)) : et_Met l y ws rm Pc Qc mc ms free := by
  refine MetFree.of_bodyS (code := cc) (maxLocals := nL) (ret := ret) hy ?_ ?_
  · intro args s m h hn
    obtain ⟨meth, c, h1, h2, h3, h4, h5, h6, -, -⟩ := et_cw_spec hn (atoms_spec (ws := ws) h _ hw)
    exact ⟨meth, c, h1, h2, h3, h4, h5, h6⟩
  · intro p e s m args below meth c s₁ B hml hP _
    have hh0 : s₁.heap = s.heap := by rw [B.state]; rfl
    obtain ⟨meth', c', h1, h2, -, -, -, -, h7, -⟩ := et_cw_spec B.named (atoms_spec (ws := ws) B.pre _ hw)
    cases B.method.symm.trans h1
    cases (Stand.of_body B).code.symm.trans h2
    obtain ⟨t, a1, o, b1, b2, b3, b4, b5⟩ := body p e s m args below meth c s₁ B hml h7 hP s₁ hh0 (Stand.of_body B)
    exact ⟨t, o, a1, b1, b2, b3, b4, b5⟩
section ETC
variable {p : Program} {l : Launch} {e : Env} {R : Room} {s : State} {m : MethodId} {args : Array Value} {below : List Frame} {meth : Method} {c : Code} {T : State} {locs : List Loc} {cells slots : Nat}
theorem et_mono {H : Heap} {Q Q' : State → Prop} {g : JFrame} (h : ∀ t, Q t → Q' t) (k : W p l e R s m args below meth c H locs cells slots Q g) : W p l e R s m args below meth c H locs cells slots Q' g := fun T hT X => by
  obtain ⟨t, a, b⟩ := k T hT X
  exact ⟨t, a, h t b⟩
/-- a call of a method by its contract, from the point where it is invoked -/
theorem et_call {y : MethodName} {ws : List Cond} {rm : Room} {Pc : Array Value → State → Prop} {Qc : Array Value → State → Outcome → State → Prop} {mc ms : Nat} {free : Addr → Prop}
    (X : Stand p l e R s m args below meth c T locs cells slots) (hM : et_Met l y ws rm Pc Qc mc ms free)
    {g : JFrame} (hg : g.method = m) (hsize : g.locals.size = c.maxLocals) {ig : Instr} {len : Nat} (hdg : decode c.code g.pc = .ok (ig, len))
    {mk : MethodId} (hn : T.methodNamed? y = some mk) (a : Array Value) {methY : Method} {cY : Code} (hmY : T.vm.method? mk = some methY) (hcY : methY.code = some cY)
    (hini : (Cond.initialized y.cls).before a T = true) (hws : ∀ w ∈ ws, w.before a T = true)
    (hfr : rm.frames + 1 ≤ R.frames) (hlo : 2 * g.monitorRoom + (g.stack.map fun v => v.category).sum + (cY.maxLocals + 11) + rm.locals ≤ R.locals)
    (hc : cells + rm.cells ≤ R.cells) (hs : slots + rm.slots ≤ R.slots) (hP : Pc a (T.calling g mk a)) :
    ∃ (o : Outcome) (t T' : State) (L : List Loc), Stand p l e R s m args below meth c T' (locs ++ L) (cells + mc) (slots + ms) ∧ (∀ q ∈ L, free q.base) ∧ T'.heap = t.heap ∧ T'.vm = t.vm ∧ Qc a (T.calling g mk a) o t ∧
      ((∃ v, o = .returned v ∧ Steps p.tables e below (doInvoke e (T.setTop g) [] mk a).1 (T'.setTop { g with pc := g.pc + len, stack := v.toList ++ g.stack })) ∨
       (∃ x, o = .threw x ∧ Steps p.tables e below (doInvoke e (T.setTop g) [] mk a).1 ((T'.setTop g).pushFrame (.throwing x)))) := by
  obtain ⟨kY, hkY, -⟩ := className_of_methodNamed hn
  have hinitY : kY.init = .initialized := Cond.initialized_spec (findClass_of_methodNamed hn) hkY hini
  have h : At T g.method c below := by rw [hg]; exact X.here
  have happ : (headSpec ws rm).appliesLoose y e.platform (T.calling g mk a) = true :=
    Spec.appliesLoose_calling (g := g) h hdg hn hkY hinitY (X.room_calling (g := g) (R' := rm) hsize hmY hcY hfr hlo hc hs) (atoms_intro hws)
  obtain ⟨mid, hmid⟩ := h.above
  have hfr2 : (T.setTop g).frames = (.java g :: mid) ++ below := by rw [State.frames_setTop' g h.top, hmid]; rfl
  obtain ⟨o, s₂, hsteps, hrun, hend, hq⟩ := Steps.callFree hM p X.admits X.cas X.clock (acts := []) hfr2 happ hP trivial
  rw [State.frames_setTop' g h.top, X.tail] at hend
  obtain ⟨hq1, hW, L, hsame, hL⟩ := hq
  cases o with
  | returned v =>
    obtain ⟨T', X', -, -, ht⟩ := X.outOf hg hdg (mk := mk) (a := a) hend hW hsame
    exact ⟨.returned v, s₂, T', L, X', hL, by rw [ht]; rfl, by rw [ht]; rfl, hq1, Or.inl ⟨v, rfl, by rw [← ht]; exact hsteps⟩⟩
  | threw x =>
    obtain ⟨T', X', -, -, ht⟩ := X.outOfThrown hg (mk := mk) (a := a) hend hW hsame
    exact ⟨.threw x, s₂, T', L, X', hL, by rw [ht]; rfl, by rw [ht]; rfl, hq1, Or.inr ⟨x, rfl, by rw [← ht]; exact hsteps⟩⟩
/-- a call that has been walked: it comes back with an answer, or the exception lies over the caller's frame -/
def et_Run (p : Program) (l : Launch) (e : Env) (R : Room) (s : State) (m : MethodId) (args : Array Value) (below : List Frame) (meth : Method) (c : Code) (H : Heap) (locs : List Loc) (cells slots mc ms : Nat) (g : JFrame) (rest : List Value) (Qa : State → Outcome → State → Prop) (free : Addr → Prop) : Prop :=
  ∀ T : State, T.heap = H → Stand p l e R s m args below meth c T locs cells slots → ∃ (o : Outcome) (st₀ t T' : State) (L : List Loc), st₀.heap = H ∧ Stand p l e R s m args below meth c T' (locs ++ L) (cells + mc) (slots + ms) ∧ (∀ q ∈ L, free q.base) ∧ T'.heap = t.heap ∧ T'.vm = t.vm ∧ Qa st₀ o t ∧
    ((∃ v, o = .returned v ∧ ∀ tg, Steps p.tables e below (T'.setTop { g with pc := g.pc + 3, stack := v.toList ++ rest }) tg → Steps p.tables e below (T.setTop g) tg) ∨
     (∃ x, o = .threw x ∧ ∀ tg, Steps p.tables e below ((T'.setTop { g with stack := rest }).pushFrame (.throwing x)) tg → Steps p.tables e below (T.setTop g) tg))
/-- what a call asks of its callee -/
def et_CB (l : Launch) (R : Room) (s : State) (args : Array Value) (H : Heap) (y : MethodName) (cY : ByteArray) (nY : Nat) (ret : Option FieldType) (hh : List (Nat × Nat × Nat × Nat)) (ws : List Cond) (rm : Room) (Pc : Array Value → State → Prop) (Qc : Array Value → State → Outcome → State → Prop) (mc ms : Nat) (free : Addr → Prop) (aa : Array Value) : Prop :=
  et_Met l y ws rm Pc Qc mc ms free ∧ rm.cells = mc ∧ rm.slots = ms ∧ rm.frames + 1 ≤ R.frames ∧ 8 + (nY + 11) + rm.locals ≤ R.locals ∧ (∀ w ∈ ws, ∀ (a' : Array Value) (U : State), s.WarmedH U.vm → w.before a' U = true) ∧ (et_cw y cY nY ret hh).before args s = true ∧ (Cond.initialized y.cls).before args s = true ∧
  (∀ (U : State) (g : JFrame) (mk : MethodId), U.heap = H → s.WarmedH U.vm → Pc aa (U.calling g mk aa))
theorem et_tail {H : Heap} {y : MethodName} {cY : ByteArray} {nY : Nat} {ret : Option FieldType} {hh : List (Nat × Nat × Nat × Nat)} {ws : List Cond} {rm : Room} {Pc : Array Value → State → Prop} {Qc : Array Value → State → Outcome → State → Prop} {mc ms : Nat} {free : Addr → Prop} {aa : Array Value}
    (K : et_CB l R s args H y cY nY ret hh ws rm Pc Qc mc ms free aa) (hT : T.heap = H) {vm₁ : Vm} (X : Stand p l e R s m args below meth c (T.setVm vm₁) locs cells slots) {mk : MethodId} (hn : s.methodNamed? y = some mk)
    {g : JFrame} {rest : List Value} (hg : g.method = m) (hsize : g.locals.size = c.maxLocals) (hW : 2 * g.monitorRoom + (rest.map fun v => v.category).sum ≤ 8) {ig : Instr} (hdg : decode c.code g.pc = .ok (ig, 3))
    (hf : cells + mc ≤ R.cells ∧ slots + ms ≤ R.slots)
    (hstep : ∀ target, (∀ acts, Steps p.tables e below (doInvoke e ((T.setVm vm₁).setTop { g with stack := rest }) acts mk aa).1 target) → Steps p.tables e below (T.setTop g) target) :
    ∃ (o : Outcome) (st₀ t T' : State) (L : List Loc), st₀.heap = H ∧ Stand p l e R s m args below meth c T' (locs ++ L) (cells + mc) (slots + ms) ∧ (∀ q ∈ L, free q.base) ∧ T'.heap = t.heap ∧ T'.vm = t.vm ∧ Qc aa st₀ o t ∧
    ((∃ v, o = .returned v ∧ ∀ tg, Steps p.tables e below (T'.setTop { g with pc := g.pc + 3, stack := v.toList ++ rest }) tg → Steps p.tables e below (T.setTop g) tg) ∨
     (∃ x, o = .threw x ∧ ∀ tg, Steps p.tables e below ((T'.setTop { g with stack := rest }).pushFrame (.throwing x)) tg → Steps p.tables e below (T.setTop g) tg)) := by
  obtain ⟨hM, hrc, hrs, hfr, hlo, hws, hcode, hini, hPc⟩ := K
  obtain ⟨methY, cc2, hmY, hcY, -, hnY, -⟩ := et_cw_spec hn hcode
  have hmY' : (T.setVm vm₁).vm.method? mk = some methY := by rw [X.warmed.alike.method?]; exact hmY
  have hini' : (Cond.initialized y.cls).before aa (T.setVm vm₁) = true := word_at X.warmed (Or.inl (by first | rfl | simp [Cond.onTables, Cond.keeps, Cond.steady])) hini
  obtain ⟨o, t, T', L, X', hL, e1, e2, hq, hd⟩ := et_call (g := { g with stack := rest }) X hM hg hsize (ig := ig) (len := 3) hdg (X.named hn) aa hmY' hcY hini' (fun w hw => hws w hw aa _ X.warmed) hfr (by rw [hnY]; show 2 * g.monitorRoom + (rest.map fun v => v.category).sum + (nY + 11) + rm.locals ≤ R.locals; omega) (by rw [hrc]; exact hf.1) (by rw [hrs]; exact hf.2) (hPc (T.setVm vm₁) _ mk hT X.warmed)
  refine ⟨o, (T.setVm vm₁).calling { g with stack := rest } mk aa, t, T', L, hT, X', hL, e1, e2, hq, ?_⟩
  rcases hd with ⟨v, h1, h2⟩ | ⟨x, h1, h2⟩
  · exact Or.inl ⟨v, h1, fun tg h => hstep _ fun acts => by rw [doInvoke_state]; exact h2.trans h⟩
  · exact Or.inr ⟨x, h1, fun tg h => hstep _ fun acts => by rw [doInvoke_state]; exact h2.trans h⟩
variable {H : Heap} {y : MethodName} {cY : ByteArray} {nY : Nat} {ret : Option FieldType} {hh : List (Nat × Nat × Nat × Nat)} {ws : List Cond} {rm : Room} {Pc : Array Value → State → Prop} {Qc : Array Value → State → Outcome → State → Prop} {mc ms : Nat} {free : Addr → Prop}
variable {own C host : String} {index : Nat} {cc : ByteArray} {b : Addr} {As rest : List Value} {g : JFrame}
theorem et_runV (hexec : p.tables.exec = Jvm.exec) (hb : c.code = cc) (hown : s.vm.findClass own = some m.cls) (K : et_CB l R s args H y cY nY ret hh ws rm Pc Qc mc ms free (Value.ref b :: As).toArray)
    (hlink : (Cond.methodLink own index y).before args s = true ∨ (Cond.methodLinkNest own index y host).before args s = true) (hinst : (Cond.instanceMethod y).before args s = true) (hsel : (Cond.selects C y y).before args s = true) (hy : y.cls ≠ "java/lang/invoke/MethodHandle" ∧ y.cls ≠ "java/lang/invoke/VarHandle")
    (hrecv : ∃ cellB : Cell, H[b]? = some cellB ∧ cellB.vm.isStatics = false ∧ s.vm.findClass C = some cellB.cls)
    (hg : g.method = m) (hlen : (parseMethodDescriptor y.desc).map (fun d => d.parameters.length) = some As.length) (hsize : g.locals.size = c.maxLocals) (hstack : g.stack = As.reverse ++ .ref b :: rest) (hW : 2 * g.monitorRoom + (rest.map fun v => v.category).sum ≤ 8) (hdg : decode cc g.pc = .ok (.invokevirtual index, 3)) (hf : cells + mc ≤ R.cells ∧ slots + ms ≤ R.slots) :
    et_Run p l e R s m args below meth c H locs cells slots mc ms g rest (Qc (Value.ref b :: As).toArray) free := by
  intro T hT X
  obtain ⟨mk, methM, hnamed, hmethM, hstM, habM⟩ := Cond.instanceMethod_spec hinst
  have hcode := K.2.2.2.2.2.2.1
  obtain ⟨methM', cM, hmethM', -, -, -, -, -, -, hsigM⟩ := et_cw_spec hnamed hcode
  cases hmethM.symm.trans hmethM'
  obtain ⟨cellB, hcell, hobj, hcls⟩ := hrecv
  obtain ⟨c2, r2, m2, q1, q2, q3, q4, kP, hkP, hkPi⟩ := Cond.selects_spec hsel
  cases hcls.symm.trans q1
  cases (State.methodFound?_of_named hnamed hy).symm.trans q2
  cases hnamed.symm.trans q3
  have hselP : selectMethod e.platform s.vm cellB.cls mk = .method mk := by rw [Launch.admits_selectMethod X.admits]; exact q4
  have hl2 : As.length = methM.sig.parameters.length := by
    rw [hsigM] at hlen
    exact (Option.some.inj hlen).symm
  have hcell' : T.heap[b]? = some cellB := by rw [hT]; exact hcell
  have hdg' : decode c.code g.pc = .ok (.invokevirtual index, 3) := by rw [hb]; exact hdg
  rcases hlink with hlink | hlink
  · obtain ⟨vm₁, X₁, hstep₁⟩ := X.invokevirtual hexec hown hlink hnamed hmethM hstM hkP hkPi hy (a := b) (cell := cellB) hcell' (fun z h => by rw [h] at hobj; cases hobj) hselP hmethM habM hkP hkPi (g := g) hg (argsL := As) (rest := rest) hl2 hstack hdg'
    exact et_tail K hT X₁ hnamed hg hsize hW hdg' hf hstep₁
  · obtain ⟨vm₁, X₁, hstep₁⟩ := X.invokevirtualNest hexec hown hlink hnamed hmethM hstM hkP hkPi hy (a := b) (cell := cellB) hcell' (fun z h => by rw [h] at hobj; cases hobj) hselP hmethM habM hkP hkPi (g := g) hg (argsL := As) (rest := rest) hl2 hstack hdg'
    exact et_tail K hT X₁ hnamed hg hsize hW hdg' hf hstep₁
theorem et_runS (hexec : p.tables.exec = Jvm.exec) (hb : c.code = cc) (hown : s.vm.findClass own = some m.cls) (K : et_CB l R s args H y cY nY ret hh ws rm Pc Qc mc ms free As.toArray)
    (hlink : (Cond.methodLink own index y).before args s = true ∨ (Cond.methodLinkNest own index y host).before args s = true) (hstat : (Cond.static y).before args s = true) (hy : y.cls ≠ "java/lang/invoke/MethodHandle" ∧ y.cls ≠ "java/lang/invoke/VarHandle") (hnm : ∃ mk, s.methodNamed? y = some mk)
    (hg : g.method = m) (hlen : (parseMethodDescriptor y.desc).map (fun d => d.parameters.length) = some As.length) (hsize : g.locals.size = c.maxLocals) (hstack : g.stack = As.reverse ++ rest) (hW : 2 * g.monitorRoom + (rest.map fun v => v.category).sum ≤ 8) (hdg : decode cc g.pc = .ok (.invokestatic index, 3)) (hf : cells + mc ≤ R.cells ∧ slots + ms ≤ R.slots) :
    et_Run p l e R s m args below meth c H locs cells slots mc ms g rest (Qc As.toArray) free := by
  intro T hT X
  obtain ⟨mk, hnamed⟩ := hnm
  have hcode := K.2.2.2.2.2.2.1
  have hini := K.2.2.2.2.2.2.2.1
  obtain ⟨methM, cM, hmethM, -, -, -, -, -, -, hsigM⟩ := et_cw_spec hnamed hcode
  have hstatic : methM.isStatic = true := Cond.static_spec hnamed hmethM hstat
  obtain ⟨kP, hkP, -⟩ := className_of_methodNamed hnamed
  have hinitP : kP.init = .initialized := Cond.initialized_spec (findClass_of_methodNamed hnamed) hkP hini
  have hl2 : As.length = methM.sig.parameters.length := by
    rw [hsigM] at hlen
    exact (Option.some.inj hlen).symm
  have hdg' : decode c.code g.pc = .ok (.invokestatic index, 3) := by rw [hb]; exact hdg
  rcases hlink with hlink | hlink
  · obtain ⟨vm₁, X₁, hstep₁⟩ := X.invokestatic hexec hown hlink hnamed hmethM hstatic hkP hinitP hy (g := g) hg (argsL := As) (rest := rest) hl2 hstack hdg'
    exact et_tail K hT X₁ hnamed hg hsize hW hdg' hf hstep₁
  · obtain ⟨vm₁, X₁, hstep₁⟩ := X.invokestaticNest hexec hown hlink hnamed hmethM hstatic hkP hinitP hy (g := g) hg (argsL := As) (rest := rest) hl2 hstack hdg'
    exact et_tail K hT X₁ hnamed hg hsize hW hdg' hf hstep₁
theorem et_runI (hexec : p.tables.exec = Jvm.exec) (hb : c.code = cc) (hown : s.vm.findClass own = some m.cls) (K : et_CB l R s args H y cY nY none [] ws rm Pc Qc mc ms free (Value.ref b :: As).toArray)
    (hlink : (Cond.methodLink own index y).before args s = true ∨ (Cond.methodLinkNest own index y host).before args s = true) (hinst : (Cond.instanceMethod y).before args s = true) (hy1 : y.name = "<init>") (hy : y.cls ≠ "java/lang/invoke/MethodHandle" ∧ y.cls ≠ "java/lang/invoke/VarHandle")
    (hg : g.method = m) (hlen : (parseMethodDescriptor y.desc).map (fun d => d.parameters.length) = some As.length) (hsize : g.locals.size = c.maxLocals) (hstack : g.stack = As.reverse ++ .ref b :: rest) (hW : 2 * g.monitorRoom + (rest.map fun v => v.category).sum ≤ 8) (hdg : decode cc g.pc = .ok (.invokespecial index, 3)) (hf : cells + mc ≤ R.cells ∧ slots + ms ≤ R.slots) :
    et_Run p l e R s m args below meth c H locs cells slots mc ms g rest (Qc (Value.ref b :: As).toArray) free := by
  intro T hT X
  have hcode : (Cond.code y cY nY none).before args s = true := K.2.2.2.2.2.2.1
  subst hg
  have hpl : e.platform.magicAccessors = ({} : Platform).magicAccessors := by rw [X.admits.platform]
  have hdg' : decode c.code g.pc = .ok (.invokespecial index, 3) := by rw [hb]; exact hdg
  have hl2 : ∀ sig, parseMethodDescriptor y.desc = some sig → As.length = sig.parameters.length := fun sig h => by
    rw [h] at hlen
    exact (Option.some.inj hlen).symm
  rcases hlink with hlink | hlink
  · obtain ⟨mk, methM, cM, kP, vm₁, hnamed, hmethM, hcodeM, -, hlocalsM, -, hkP, -, hW₁, hstep₁⟩ := Steps.initColdArgs (e := e) X.here hexec X.warmed hpl hown hy1 hy hlink hinst hcode (f := g) rfl hl2 hstack hdg'
    exact et_tail K hT (X.noted hW₁) hnamed rfl hsize hW hdg' hf hstep₁
  · obtain ⟨mk, methM, cM, kP, vm₁, hnamed, hmethM, hcodeM, -, hlocalsM, -, hkP, -, hW₁, hstep₁⟩ := Steps.initColdArgsNest (e := e) X.here hexec X.warmed hpl hown hy1 hy hlink hinst hcode (f := g) rfl hl2 hstack hdg'
    exact et_tail K hT (X.noted hW₁) hnamed rfl hsize hW hdg' hf hstep₁
end ETC
end
section
/-! ===== the small machine: cells by numbers from 0 on; a reference k stands for the address B + k ===== -/
abbrev et_MC : Type := (Nat × vp_A) ⊕ (Nat × List Value)
abbrev et_R : Type := Option Value ⊕ Nat
/-- the script: its address, its length, what it holds -/
abbrev et_X : Type := Nat × Nat × (Nat → Int32)
abbrev et_Y : Type := MethodName × ByteArray × Nat × Option FieldType × List (Nat × Nat × Nat × Nat)
def et_em (B : Nat) (v : Value) : Value := match v with
  | .ref a => .ref (B + a)
  | .int x => .int x
  | .long x => .long x
  | .float x => .float x
  | .double x => .double x
  | .null => .null
  | .retAddr x => .ref x
def et_ea (B : Nat) (a : vp_A) : vp_A := (a.1, match a.2 with
  | .inl f => .inl f
  | .inr (.inl f) => .inr (.inl f)
  | .inr (.inr (.inl f)) => .inr (.inr (.inl f))
  | .inr (.inr (.inr (.inl f))) => .inr (.inr (.inr (.inl f)))
  | .inr (.inr (.inr (.inr f))) => .inr (.inr (.inr (.inr (fun j => (f j).map (fun k => B + k))))))
def et_void : et_MC := .inr (1000, [])
theorem et_em_cat (B : Nat) (v : Value) : (et_em B v).category = v.category := by cases v <;> rfl
def et_at (D : va_G) (dA : Nat → ClassId) (B q : Nat) (x : et_MC) (H : Heap) : Prop := match x with
  | .inl a => H[q]? = some (vp_cell (dA a.1) (et_ea B a.2))
  | .inr o => ∃ r : vw_C, et_cl[o.1]? = some r ∧ t_OB q (D.1 o.1) r.2.2 (D.2 o.1) H (vp_V (o.2.map (et_em B)))
def et_HP (D : va_G) (dA : Nat → ClassId) (B : Nat) (h : Nat → et_MC) (n : Nat) (H : Heap) : Prop := H.size = B + n ∧ ∀ k, h k = et_void ∨ (k < n ∧ et_at D dA B (B + k) (h k) H)
theorem et_at.kept {D : va_G} {dA : Nat → ClassId} {B q : Nat} {x : et_MC} {H H1 : Heap} (h : et_at D dA B q x H) (hq : H1[q]? = H[q]?) : et_at D dA B q x H1 := by
  cases x with
  | inl a => exact hq.trans h
  | inr o =>
    obtain ⟨r, h1, h2⟩ := h
    exact ⟨r, h1, h2.kept hq⟩
theorem et_HP.put {D : va_G} {dA : Nat → ClassId} {B n k : Nat} {h : Nat → et_MC} {x : et_MC} {H H1 : Heap} (hP : et_HP D dA B h n H) (hk : k < n) (hx : et_at D dA B (B + k) x H1) (z : H1.size = H.size) (oq : ∀ q : Nat, q ≠ B + k → H1[q]? = H[q]?) : et_HP D dA B (va_up h k x) n H1 := by
  refine ⟨z.trans hP.1, fun j => ?_⟩
  by_cases hj : j = k
  · subst hj
    refine Or.inr ⟨hk, ?_⟩
    simpa [va_up] using hx
  · have e : va_up h k x j = h j := by simp [va_up, hj]
    rw [e]
    rcases hP.2 j with h0 | ⟨h1, h2⟩
    · exact Or.inl h0
    · exact Or.inr ⟨h1, h2.kept (oq _ (by omega))⟩
theorem et_HP.push {D : va_G} {dA : Nat → ClassId} {B n : Nat} {h : Nat → et_MC} {x : et_MC} {H H1 : Heap} (hP : et_HP D dA B h n H) (hx : x = et_void ∨ et_at D dA B (B + n) x H1) (z : H1.size = H.size + 1) (oq : ∀ q : Nat, q < H.size → H1[q]? = H[q]?) : et_HP D dA B (va_up h n x) (n + 1) H1 := by
  refine ⟨by rw [z, hP.1]; omega, fun j => ?_⟩
  by_cases hj : j = n
  · subst hj
    have e : va_up h j x j = x := by simp [va_up]
    rw [e]
    rcases hx with hx | hx
    · exact Or.inl hx
    · exact Or.inr ⟨by omega, hx⟩
  · have e : va_up h n x j = h j := by simp [va_up, hj]
    rw [e]
    rcases hP.2 j with h0 | ⟨h1, h2⟩
    · exact Or.inl h0
    · exact Or.inr ⟨by omega, h2.kept (oq _ (by rw [hP.1]; omega))⟩
theorem et_HP.arr {D : va_G} {dA : Nat → ClassId} {B n k : Nat} {h : Nat → et_MC} {H : Heap} {a : Nat × vp_A} (hP : et_HP D dA B h n H) (hh : h k = .inl a) : k < n ∧ H[B + k]? = some (vp_cell (dA a.1) (et_ea B a.2)) := by
  rcases hP.2 k with h0 | ⟨h1, h2⟩
  · rw [hh] at h0
    cases h0
  · rw [hh] at h2
    exact ⟨h1, h2⟩
theorem et_HP.obj {D : va_G} {dA : Nat → ClassId} {B n k ci : Nat} {h : Nat → et_MC} {H : Heap} {fs : List Value} {r : vw_C} (hP : et_HP D dA B h n H) (hh : h k = .inr (ci, fs)) (hc : et_cl[ci]? = some r) : k < n ∧ t_OB (B + k) (D.1 ci) r.2.2 (D.2 ci) H (vp_V (fs.map (et_em B))) := by
  rcases hP.2 k with h0 | ⟨h1, h2⟩
  · rw [hh] at h0
    have h3 : ci = 1000 := by
      have := Sum.inr.inj h0
      exact (Prod.mk.inj this).1
    subst h3
    have h9 : et_cl[1000]? = none := rfl
    rw [h9] at hc
    cases hc
  · rw [hh] at h2
    obtain ⟨r', h3, h4⟩ := h2
    cases hc.symm.trans h3
    exact ⟨h1, h4⟩
/-- what stays of the machine's tables and of the old heap over a whole run -/
def et_stF (B : Nat) (U : State) (nm d : String) : Prop := ∃ (c : ClassId) (k : Class) (i : Nat) (f : Field) (a : Nat) (cell : Cell) (v : Value), U.vm.findClass "java/lang/Throwable" = some c ∧ U.fieldFound? "java/lang/Throwable" nm d = some (c, k, i, f) ∧ f.isStatic = true ∧ k.statics = some a ∧ a < B ∧ U.heap[a]? = some cell ∧ cell.vm.isStatics = true ∧ cell.cls = c ∧ f.slot < cell.slots.size ∧ k.staticTypes[f.slot]? = some f.type ∧ cell.slots[f.slot]? = some v ∧ v.isRef = true
theorem et_stF.moved {B : Nat} {u U : State} {nm d : String} (hvm : u.vm.Alike U.vm) (hF : ∀ q : Nat, q < B → U.heap[q]? = u.heap[q]?) (h : et_stF B u nm d) : et_stF B U nm d := by
  obtain ⟨c, k, i, f, a, cell, v, h1, h2, h3, h4, h5, h6, h7, h8, h9, h10, h11, h12⟩ := h
  obtain ⟨k', hi', he⟩ := State.fieldFound?_setVm hvm h2
  exact ⟨c, k', i, f, a, cell, v, by rw [hvm.findClass]; exact h1, hi', h3, by rw [he]; exact h4, h5, by rw [hF a h5]; exact h6, h7, h8, h9, by rw [he]; exact h10, h11, h12⟩
def et_Wd (sc : et_X) (B : Nat) (D : va_G) (dA : Nat → ClassId) (U : State) : Prop :=
  va_K D et_cl (et_tys dA) U ∧ (∀ w ∈ et_NST, va_Nw w U) ∧ (et_stF B U "UNASSIGNED_STACK" "[Ljava/lang/StackTraceElement;" ∧ et_stF B U "SUPPRESSED_SENTINEL" "Ljava/util/List;") ∧ (∀ q ∈ et_STR, ∃ a : Nat, vk_R q.1 q.2.1 q.2.2 a U) ∧ (∀ C ∈ et_AOS, va_AO C U) ∧ va_X sc.1 sc.2.1 sc.2.2 U U.heap ∧ sc.1 < B ∧ (∃ kA : Class, U.vm.classes[dA 4]? = some kA ∧ kA.kind = .array (dA 0) (.array .int)) ∧ va_Nc (et_exn 1) (et_exn 0) U
theorem et_Wd.moved {sc : et_X} {B : Nat} {D : va_G} {dA : Nat → ClassId} {u U : State} (hW : u.WarmedH U.vm) (hF : ∀ q : Nat, q < B → U.heap[q]? = u.heap[q]?) (h : et_Wd sc B D dA u) : et_Wd sc B D dA U := by
  obtain ⟨h1, h2, ⟨h3, h4⟩, h5, h6, ⟨scr, g1, g2, g3⟩, h8, ⟨kA, hkA, hkk⟩, h9⟩ := h
  obtain ⟨kA', hkA', heA⟩ := hW.alike.2.2 _ _ hkA
  refine ⟨va_K.moved hW.alike h1, fun w hw => ?_, ⟨h3.moved hW.alike hF, h4.moved hW.alike hF⟩, fun q hq => ?_, fun C hC => (h6 C hC).moved hW.alike, ⟨scr, by rw [hF _ h8]; exact g1, State.isArrayOf_alike hW.alike g2, g3⟩, h8, ⟨kA', hkA', by rw [heA]; exact hkk⟩, va_Nc.moved hW.alike h9⟩
  · have h7 := h2 w hw
    have h8 := et_NST_ok w hw
    cases w <;> first | exact va_Nw.warmF hW h7 | exact va_Nw.warmM hW h7 | exact va_Nw.warmD hW h7 | exact va_tabs (u := u.setVm U.vm) rfl rfl (by rw [Cond.castable_setVm hW.alike]; exact h7) | exact absurd h8 (by simp [et_isN])
  · obtain ⟨a, ha⟩ := h5 q hq
    exact ⟨a, ha.warm hW⟩
def et_rm (d mc ms : Nat) : Room := { frames := 8 + d, cells := mc, slots := ms, locals := 120 + 90 * d }
def et_L (l : Launch) : Prop := ∀ e : Env, l.admits e → e.platform.stackTraces = false
def et_C (sc : et_X) (Y : et_Y) (d mc ms B : Nat) (D : va_G) (dA : Nat → ClassId) (p : Program) (l : Launch) (R : Room) (s : State) (m : MethodId) (args : Array Value) (meth : Method) (c : Code) : Prop :=
  p.tables.exec = Jvm.exec ∧ c.code = Y.2.1 ∧ c.maxLocals = Y.2.2.1 ∧ meth.sig.returnType = Y.2.2.2.1 ∧ meth.locks = false ∧ meth.name = Y.1.name ∧ s.vm.findClass Y.1.cls = some m.cls ∧ (∀ w ∈ et_W, w.before args s = true) ∧
  c.exceptionTable.toList.map (fun h => (h.startPc, h.endPc, h.handlerPc, h.catchType)) = Y.2.2.2.2 ∧ R = et_rm d mc ms ∧ et_Wd sc B D dA s ∧ et_L l
section ETCx
variable {sc : et_X} {Y : et_Y} {d mc ms B : Nat} {D : va_G} {dA : Nat → ClassId} {p : Program} {l : Launch} {R : Room} {s : State} {m : MethodId} {args : Array Value} {meth : Method} {c : Code}
theorem et_C.ret (C : et_C sc Y d mc ms B D dA p l R s m args meth c) : meth.sig.returnType = Y.2.2.2.1 := C.2.2.2.1
theorem et_C.locks (C : et_C sc Y d mc ms B D dA p l R s m args meth c) : meth.locks = false := C.2.2.2.2.1
theorem et_C.name (C : et_C sc Y d mc ms B D dA p l R s m args meth c) : meth.name = Y.1.name := C.2.2.2.2.2.1
theorem et_C.own (C : et_C sc Y d mc ms B D dA p l R s m args meth c) : s.vm.findClass Y.1.cls = some m.cls := C.2.2.2.2.2.2.1
theorem et_C.hts (C : et_C sc Y d mc ms B D dA p l R s m args meth c) : ∀ w ∈ et_W, w.before args s = true := C.2.2.2.2.2.2.2.1
theorem et_C.tab (C : et_C sc Y d mc ms B D dA p l R s m args meth c) : c.exceptionTable.toList.map (fun h => (h.startPc, h.endPc, h.handlerPc, h.catchType)) = Y.2.2.2.2 := C.2.2.2.2.2.2.2.2.1
theorem et_C.rm (C : et_C sc Y d mc ms B D dA p l R s m args meth c) : R = et_rm d mc ms := C.2.2.2.2.2.2.2.2.2.1
theorem et_C.wd (C : et_C sc Y d mc ms B D dA p l R s m args meth c) : et_Wd sc B D dA s := C.2.2.2.2.2.2.2.2.2.2.1
theorem et_C.la (C : et_C sc Y d mc ms B D dA p l R s m args meth c) : et_L l := C.2.2.2.2.2.2.2.2.2.2.2
theorem et_C.kk (C : et_C sc Y d mc ms B D dA p l R s m args meth c) : va_K D et_cl (et_tys dA) s := C.wd.1
end ETCx
/-- the answer, or the kind of the exception -/
def et_O (B : Nat) (r : et_R) (o : Outcome) (t : State) : Prop := match r with
  | .inl v => o = .returned (v.map (et_em B))
  | .inr k => ∃ (a : Nat) (ce : Cell), o = .threw (B + a) ∧ t.heap[B + a]? = some ce ∧ t.vm.findClass (et_exn k) = some ce.cls ∧ ce.vm.isStatics = false
def et_Qc (B : Nat) (D : va_G) (dA : Nat → ClassId) (Post : et_R → (Nat → et_MC) → Nat → Prop) : Array Value → State → Outcome → State → Prop := fun _ st o t =>
  (∃ (r : et_R) (h : Nat → et_MC) (n : Nat), Post r h n ∧ et_HP D dA B h n t.heap ∧ et_O B r o t) ∧ ∀ q : Nat, q < B → t.heap[q]? = st.heap[q]?
/-- the locals -/
def et_ll (B : Nat) : Nat → List (Option Value) → List (Nat × Value)
  | _, [] => []
  | i, none :: r => et_ll B (i + 1) r
  | i, some v :: r => (i, et_em B v) :: et_ll B (i + 1) r
theorem et_ll_mem {B : Nat} : ∀ (lv : List (Option Value)) (i : Nat) (q : Nat × Value), q ∈ et_ll B i lv ↔ ∃ (j : Nat) (v : Value), lv[j]? = some (some v) ∧ q = (i + j, et_em B v)
  | [], i, q => by simp [et_ll]
  | none :: r, i, q => by
    rw [et_ll, et_ll_mem r (i + 1) q]
    constructor
    · rintro ⟨j, v, h1, h2⟩
      exact ⟨j + 1, v, by simpa using h1, by rw [h2]; congr 1; omega⟩
    · rintro ⟨j, v, h1, h2⟩
      cases j with
      | zero => simp at h1
      | succ j => exact ⟨j, v, by simpa using h1, by rw [h2]; congr 1; omega⟩
  | some w :: r, i, q => by
    rw [et_ll, List.mem_cons, et_ll_mem r (i + 1) q]
    constructor
    · rintro (h | ⟨j, v, h1, h2⟩)
      · exact ⟨0, w, by simp, by rw [h]; rfl⟩
      · exact ⟨j + 1, v, by simpa using h1, by rw [h2]; congr 1; omega⟩
    · rintro ⟨j, v, h1, h2⟩
      cases j with
      | zero =>
        simp at h1
        subst h1
        exact Or.inl h2
      | succ j => exact Or.inr ⟨j, v, by simpa using h1, by rw [h2]; congr 1; omega⟩
theorem et_ld {B nL j : Nat} {lv : List (Option Value)} {v : Value} {ls : Array Slot} (hl : lv_has ls nL (et_ll B 0 lv)) (hj : lv[j]? = some (some v)) : ls[j]? = some (.val (et_em B v)) := by
  have h := hl.2.2 (j, et_em B v) ((et_ll_mem lv 0 _).mpr ⟨j, v, hj, by simp⟩)
  exact h
theorem et_sub {ls : Array Slot} {nL : Nat} {l l' : List (Nat × Value)} (h : lv_has ls nL l) (hs : ∀ q ∈ l', q ∈ l) : lv_has ls nL l' := ⟨h.1, h.2.1, fun q hq => h.2.2 q (hs q hq)⟩
def et_pv (lv : List (Option Value)) (i : Nat) : Bool := match i with
  | 0 => true
  | k + 1 => match lv[k]? with
    | some (some w) => w.category != 2
    | _ => true
theorem et_pv_ok {lv : List (Option Value)} {i j : Nat} {w : Value} (h : et_pv lv i = true) (hj : lv[j]? = some (some w)) (hi : j + 1 = i) : ¬ w.category = 2 := by
  subst hi
  simp only [et_pv, hj] at h
  simpa using h
theorem et_st1 {B i : Nat} {lv : List (Option Value)} {v : Value} (h : et_pv lv i = true) : ∀ q ∈ et_ll B 0 (lv.set i (some v)), q ∈ ((i, et_em B v) :: (et_ll B 0 lv).filter (fun q => !(q.1 == i) && !(q.1 + 1 == i && q.2.category == 2))) := by
  intro q hq
  obtain ⟨j, w, h1, h2⟩ := (et_ll_mem _ _ _).mp hq
  rw [Nat.zero_add] at h2
  subst h2
  by_cases hj : j = i
  · subst hj
    have hlt : j < lv.length := by
      have := (List.getElem?_eq_some_iff.mp h1).1
      simpa using this
    rw [List.getElem?_set_self hlt] at h1
    cases h1
    exact List.mem_cons_self
  · rw [List.getElem?_set_ne (Ne.symm hj)] at h1
    refine List.mem_cons_of_mem _ (List.mem_filter.mpr ⟨(et_ll_mem _ _ _).mpr ⟨j, w, h1, by simp⟩, ?_⟩)
    by_cases h3 : j + 1 = i
    · have h4 := et_pv_ok h h1 h3
      simp [hj, et_em_cat, h4]
    · simp [hj, h3]
theorem et_st2 {B i : Nat} {lv : List (Option Value)} {v : Value} (h : et_pv lv i = true) : ∀ q ∈ et_ll B 0 ((lv.set i (some v)).set (i + 1) none), q ∈ ((i, et_em B v) :: (et_ll B 0 lv).filter (fun q => !(q.1 == i) && (!(q.1 == i + 1) && !(q.1 + 1 == i && q.2.category == 2)))) := by
  intro q hq
  obtain ⟨j, w, h1, h2⟩ := (et_ll_mem _ _ _).mp hq
  rw [Nat.zero_add] at h2
  subst h2
  by_cases hj1 : j = i + 1
  · subst hj1
    exfalso
    by_cases hlt : i + 1 < (lv.set i (some v)).length
    · rw [List.getElem?_set_self hlt] at h1
      cases h1
    · rw [List.getElem?_eq_none (by rw [List.length_set]; omega)] at h1
      cases h1
  · rw [List.getElem?_set_ne (Ne.symm hj1)] at h1
    by_cases hj : j = i
    · subst hj
      have hlt : j < lv.length := by
        have := (List.getElem?_eq_some_iff.mp h1).1
        simpa using this
      rw [List.getElem?_set_self hlt] at h1
      cases h1
      exact List.mem_cons_self
    · rw [List.getElem?_set_ne (Ne.symm hj)] at h1
      refine List.mem_cons_of_mem _ (List.mem_filter.mpr ⟨(et_ll_mem _ _ _).mpr ⟨j, w, h1, by simp⟩, ?_⟩)
      by_cases h3 : j + 1 = i
      · have h4 := et_pv_ok h h1 h3
        simp [hj, hj1, et_em_cat, h4]
      · simp [hj, hj1, h3]
/-- the judgement of the small machine -/
def et_M (sc : et_X) (Y : et_Y) (d mc ms : Nat) (Post : et_R → (Nat → et_MC) → Nat → Prop) (pc : Nat) (lv : List (Option Value)) (st : List Value) (h : Nat → et_MC) (n nc ns : Nat) : Prop :=
  ∀ (p : Program) (l : Launch) (e : Env) (R : Room) (s : State) (m : MethodId) (args : Array Value) (below : List Frame) (meth : Method) (c : Code) (B : Nat) (D : va_G) (dA : Nat → ClassId) (ls : Array Slot) (H : Heap) (locs : List Loc),
    et_C sc Y d mc ms B D dA p l R s m args meth c → et_HP D dA B h n H → (∀ q : Nat, q < B → H[q]? = s.heap[q]?) → (∀ q ∈ locs, B ≤ q.base) → lv_has ls Y.2.2.1 (et_ll B 0 lv) →
    W p l e R s m args below meth c H locs nc ns (et_Q below (et_Qc B D dA Post) args s mc ms (fun q => B ≤ q)) (F0 m pc ls (st.map (et_em B)))
/-- the contract of the small machine -/
def et_Cn (sc : et_X) (Y : et_Y) (d : Nat) (av : List Value) (h : Nat → et_MC) (n mc ms : Nat) (Post : et_R → (Nat → et_MC) → Nat → Prop) : Prop :=
  ∀ (l : Launch) (B : Nat) (D : va_G) (dA : Nat → ClassId), et_L l →
    et_Met l Y.1 et_W (et_rm d mc ms) (va_Pc (av.map (et_em B)) (fun U => et_HP D dA B h n U.heap ∧ et_Wd sc B D dA U)) (et_Qc B D dA Post) mc ms (fun q => B ≤ q)
/-- a method's locals at its start -/
def et_av : List Value → List (Option Value)
  | [] => []
  | v :: r => if v.category = 2 then some v :: none :: et_av r else some v :: et_av r
theorem et_av_args {B : Nat} : ∀ (av : List Value) (i k : Nat) (q : Nat × Value), q ∈ et_ll B i (et_av av ++ List.replicate k none) → q ∈ lv_args i (av.map (et_em B))
  | [], i, k, q, h => by
    exfalso
    obtain ⟨j, v, h1, -⟩ := (et_ll_mem _ _ _).mp h
    simp only [et_av, List.nil_append, List.getElem?_replicate] at h1
    split at h1 <;> simp at h1
  | v :: r, i, k, q, h => by
    by_cases hc : v.category = 2
    · simp only [et_av, hc, if_true, List.cons_append, et_ll, List.mem_cons] at h
      simp only [List.map_cons, lv_args, et_em_cat, hc, if_true, List.mem_cons]
      rcases h with h | h
      · exact Or.inl h
      · exact Or.inr (et_av_args r (i + 2) k q h)
    · simp only [et_av, hc, if_false, List.cons_append, et_ll, List.mem_cons] at h
      simp only [List.map_cons, lv_args, et_em_cat, hc, if_false, List.mem_cons]
      rcases h with h | h
      · exact Or.inl h
      · exact Or.inr (et_av_args r (i + 1) k q h)
theorem et_sl_len (B : Nat) (av : List Value) : (lg_sl (av.map (et_em B))).length = (et_av av).length := by
  induction av with
  | nil => rfl
  | cons v r ih =>
    by_cases hc : v.category = 2
    · simp only [lg_sl, List.map_cons, List.flatMap_cons, et_em_cat, hc, if_true, List.length_append, et_av] at ih ⊢
      rw [ih]
      simp
      omega
    · simp only [lg_sl, List.map_cons, List.flatMap_cons, et_em_cat, hc, if_false, List.length_append, et_av] at ih ⊢
      rw [ih]
      simp
      omega
/-- a contract out of the walk from the entry -/
theorem et_Cn.of {sc : et_X} {Y : et_Y} {d : Nat} {av : List Value} {h : Nat → et_MC} {n mc ms : Nat} {Post : et_R → (Nat → et_MC) → Nat → Prop} {lv : List (Option Value)} (k : Nat) (hlv : et_av av ++ List.replicate k none = lv) (hlen : lv.length = Y.2.2.1)
    (hy : plainName Y.1.cls = true) (hw : et_cw Y.1 Y.2.1 Y.2.2.1 Y.2.2.2.1 Y.2.2.2.2 ∈ et_W) (K : et_M sc Y d mc ms Post 0 lv [] h n 0 0) : et_Cn sc Y d av h n mc ms Post := by
  intro l B D dA hl
  refine et_MetW (cc := Y.2.1) (nL := Y.2.2.1) (ret := Y.2.2.2.1) (hh := Y.2.2.2.2) hy hw ?_
  intro p e s m args below meth c s₁ Bd hml htab hv
  obtain ⟨rfl, hP, hWd⟩ := hv
  have hl1 : (lg_sl (av.map (et_em B))).length ≤ Y.2.2.1 := by
    rw [et_sl_len, ← hlen, ← hlv, List.length_append]
    omega
  have he := lv_entry (av.map (et_em B)) hl1
  rw [lg_entry_eq]
  exact K p l e _ s m _ below meth c B D dA _ s.heap [] ⟨Bd.exec, Bd.bytes, hml, Bd.returns, Bd.notSynchronized, (name_of_methodNamed Bd.named Bd.method).1, findClass_of_methodNamed Bd.named, atoms_spec (ws := et_W) Bd.pre, htab, rfl, hWd, hl⟩ hP (fun _ _ => rfl) (fun _ h => by cases h) (et_sub he (fun q hq => et_av_args av 0 k q (by rw [hlv]; exact hq)))
end
section
theorem et_ne {q B k : Nat} (h : q < B) : q ≠ B + k := by omega
section ETR
variable {sc : et_X} {Y : et_Y} {d mc ms : Nat} {Post : et_R → (Nat → et_MC) → Nat → Prop} {pc : Nat} {lv : List (Option Value)} {st : List Value} {h : Nat → et_MC} {n nc ns : Nat}
theorem et_iconst {z : Int} {v : Int32} (hdg : decode Y.2.1 pc = .ok (.iconst z, 1)) (hv : Int32.ofInt z = v) (k : et_M sc Y d mc ms Post (pc + 1) lv (.int v :: st) h n nc ns) : et_M sc Y d mc ms Post (pc) lv (st) h n nc ns := by
  intro p l e R s m args below meth c B D dA ls H locs C hP hF hL hl
  exact lv_iconst (rest := st.map (et_em B)) C.1 C.2.1 hdg hv (k p l e R s m args below meth c B D dA ls H locs C hP hF hL hl)
theorem et_bipush {z : Int} {v : Int32} (hdg : decode Y.2.1 pc = .ok (.bipush z, 2)) (hv : (Int8.ofInt z).toInt32 = v) (k : et_M sc Y d mc ms Post (pc + 2) lv (.int v :: st) h n nc ns) : et_M sc Y d mc ms Post (pc) lv (st) h n nc ns := by
  intro p l e R s m args below meth c B D dA ls H locs C hP hF hL hl
  exact lv_bipush (rest := st.map (et_em B)) C.1 C.2.1 hdg hv (k p l e R s m args below meth c B D dA ls H locs C hP hF hL hl)
theorem et_sipush {z : Int} {v : Int32} (hdg : decode Y.2.1 pc = .ok (.sipush z, 3)) (hv : (Int16.ofInt z).toInt32 = v) (k : et_M sc Y d mc ms Post (pc + 3) lv (.int v :: st) h n nc ns) : et_M sc Y d mc ms Post (pc) lv (st) h n nc ns := by
  intro p l e R s m args below meth c B D dA ls H locs C hP hF hL hl
  exact lv_sipush (rest := st.map (et_em B)) C.1 C.2.1 hdg hv (k p l e R s m args below meth c B D dA ls H locs C hP hF hL hl)
theorem et_lconst {z : Fin 2} {v : Int64} (hdg : decode Y.2.1 pc = .ok (.lconst z, 1)) (hv : Int64.ofNat (z : Nat) = v) (k : et_M sc Y d mc ms Post (pc + 1) lv (.long v :: st) h n nc ns) : et_M sc Y d mc ms Post (pc) lv (st) h n nc ns := by
  intro p l e R s m args below meth c B D dA ls H locs C hP hF hL hl
  exact lv_lconst (rest := st.map (et_em B)) C.1 C.2.1 hdg hv (k p l e R s m args below meth c B D dA ls H locs C hP hF hL hl)
theorem et_iload_n {z : Fin 4} {i : Nat} {x : Int32} (hdg : decode Y.2.1 pc = .ok (.iload_n z, 1)) (hi : (z : Nat) = i) (hj : lv[i]? = some (some (.int x))) (k : et_M sc Y d mc ms Post (pc + 1) lv (.int x :: st) h n nc ns) : et_M sc Y d mc ms Post (pc) lv (st) h n nc ns := by
  intro p l e R s m args below meth c B D dA ls H locs C hP hF hL hl
  exact lv_iload_n (rest := st.map (et_em B)) C.1 C.2.1 hdg hi (et_ld hl hj) (k p l e R s m args below meth c B D dA ls H locs C hP hF hL hl)
theorem et_iload {i : Nat} {x : Int32} (hdg : decode Y.2.1 pc = .ok (.iload i, 2)) (hj : lv[i]? = some (some (.int x))) (k : et_M sc Y d mc ms Post (pc + 2) lv (.int x :: st) h n nc ns) : et_M sc Y d mc ms Post (pc) lv (st) h n nc ns := by
  intro p l e R s m args below meth c B D dA ls H locs C hP hF hL hl
  exact lv_iload (rest := st.map (et_em B)) C.1 C.2.1 hdg (et_ld hl hj) (k p l e R s m args below meth c B D dA ls H locs C hP hF hL hl)
theorem et_lload_n {z : Fin 4} {i : Nat} {x : Int64} (hdg : decode Y.2.1 pc = .ok (.lload_n z, 1)) (hi : (z : Nat) = i) (hj : lv[i]? = some (some (.long x))) (k : et_M sc Y d mc ms Post (pc + 1) lv (.long x :: st) h n nc ns) : et_M sc Y d mc ms Post (pc) lv (st) h n nc ns := by
  intro p l e R s m args below meth c B D dA ls H locs C hP hF hL hl
  exact lv_lload_n (rest := st.map (et_em B)) C.1 C.2.1 hdg hi (et_ld hl hj) (k p l e R s m args below meth c B D dA ls H locs C hP hF hL hl)
theorem et_lload {i : Nat} {x : Int64} (hdg : decode Y.2.1 pc = .ok (.lload i, 2)) (hj : lv[i]? = some (some (.long x))) (k : et_M sc Y d mc ms Post (pc + 2) lv (.long x :: st) h n nc ns) : et_M sc Y d mc ms Post (pc) lv (st) h n nc ns := by
  intro p l e R s m args below meth c B D dA ls H locs C hP hF hL hl
  exact lv_lload (rest := st.map (et_em B)) C.1 C.2.1 hdg (et_ld hl hj) (k p l e R s m args below meth c B D dA ls H locs C hP hF hL hl)
theorem et_aload_n {z : Fin 4} {i : Nat} {x : Nat} (hdg : decode Y.2.1 pc = .ok (.aload_n z, 1)) (hi : (z : Nat) = i) (hj : lv[i]? = some (some (.ref x))) (k : et_M sc Y d mc ms Post (pc + 1) lv (.ref x :: st) h n nc ns) : et_M sc Y d mc ms Post (pc) lv (st) h n nc ns := by
  intro p l e R s m args below meth c B D dA ls H locs C hP hF hL hl
  exact lv_aload_n (rest := st.map (et_em B)) C.1 C.2.1 hdg hi (et_ld hl hj) (k p l e R s m args below meth c B D dA ls H locs C hP hF hL hl)
theorem et_aload {i : Nat} {x : Nat} (hdg : decode Y.2.1 pc = .ok (.aload i, 2)) (hj : lv[i]? = some (some (.ref x))) (k : et_M sc Y d mc ms Post (pc + 2) lv (.ref x :: st) h n nc ns) : et_M sc Y d mc ms Post (pc) lv (st) h n nc ns := by
  intro p l e R s m args below meth c B D dA ls H locs C hP hF hL hl
  exact lv_aload (rest := st.map (et_em B)) C.1 C.2.1 hdg (et_ld hl hj) (k p l e R s m args below meth c B D dA ls H locs C hP hF hL hl)
theorem et_istore_n {z : Fin 4} {i : Nat} {x : Int32} {lv' : List (Option Value)} (hdg : decode Y.2.1 pc = .ok (.istore_n z, 1)) (hi : (z : Nat) = i) (hn : i < Y.2.2.1) (hv : et_pv lv i = true) (hs : lv.set i (some (.int x)) = lv') (k : et_M sc Y d mc ms Post (pc + 1) lv' (st) h n nc ns) : et_M sc Y d mc ms Post (pc) lv (.int x :: st) h n nc ns := by
  intro p l e R s m args below meth c B D dA ls H locs C hP hF hL hl
  refine lv_istore_n (rest := st.map (et_em B)) C.1 C.2.1 hdg hi hl hn rfl (fun ls' hl' => ?_)
  subst hs
  exact k p l e R s m args below meth c B D dA ls' H locs C hP hF hL (et_sub hl' (et_st1 (v := .int x) hv))
theorem et_istore {i : Nat} {x : Int32} {lv' : List (Option Value)} (hdg : decode Y.2.1 pc = .ok (.istore i, 2)) (hn : i < Y.2.2.1) (hv : et_pv lv i = true) (hs : lv.set i (some (.int x)) = lv') (k : et_M sc Y d mc ms Post (pc + 2) lv' (st) h n nc ns) : et_M sc Y d mc ms Post (pc) lv (.int x :: st) h n nc ns := by
  intro p l e R s m args below meth c B D dA ls H locs C hP hF hL hl
  refine lv_istore (rest := st.map (et_em B)) C.1 C.2.1 hdg hl hn rfl (fun ls' hl' => ?_)
  subst hs
  exact k p l e R s m args below meth c B D dA ls' H locs C hP hF hL (et_sub hl' (et_st1 (v := .int x) hv))
theorem et_astore_n {z : Fin 4} {i : Nat} {x : Nat} {lv' : List (Option Value)} (hdg : decode Y.2.1 pc = .ok (.astore_n z, 1)) (hi : (z : Nat) = i) (hn : i < Y.2.2.1) (hv : et_pv lv i = true) (hs : lv.set i (some (.ref x)) = lv') (k : et_M sc Y d mc ms Post (pc + 1) lv' (st) h n nc ns) : et_M sc Y d mc ms Post (pc) lv (.ref x :: st) h n nc ns := by
  intro p l e R s m args below meth c B D dA ls H locs C hP hF hL hl
  refine lv_astore_n (rest := st.map (et_em B)) C.1 C.2.1 hdg hi hl hn rfl (fun ls' hl' => ?_)
  subst hs
  exact k p l e R s m args below meth c B D dA ls' H locs C hP hF hL (et_sub hl' (et_st1 (v := .ref x) hv))
theorem et_astore {i : Nat} {x : Nat} {lv' : List (Option Value)} (hdg : decode Y.2.1 pc = .ok (.astore i, 2)) (hn : i < Y.2.2.1) (hv : et_pv lv i = true) (hs : lv.set i (some (.ref x)) = lv') (k : et_M sc Y d mc ms Post (pc + 2) lv' (st) h n nc ns) : et_M sc Y d mc ms Post (pc) lv (.ref x :: st) h n nc ns := by
  intro p l e R s m args below meth c B D dA ls H locs C hP hF hL hl
  refine lv_astore (rest := st.map (et_em B)) C.1 C.2.1 hdg hl hn rfl (fun ls' hl' => ?_)
  subst hs
  exact k p l e R s m args below meth c B D dA ls' H locs C hP hF hL (et_sub hl' (et_st1 (v := .ref x) hv))
theorem et_lstore_n {z : Fin 4} {i : Nat} {x : Int64} {lv' : List (Option Value)} (hdg : decode Y.2.1 pc = .ok (.lstore_n z, 1)) (hi : (z : Nat) = i) (hn : i + 1 < Y.2.2.1) (hv : et_pv lv i = true) (hs : (lv.set i (some (.long x))).set (i + 1) none = lv') (k : et_M sc Y d mc ms Post (pc + 1) lv' (st) h n nc ns) : et_M sc Y d mc ms Post (pc) lv (.long x :: st) h n nc ns := by
  intro p l e R s m args below meth c B D dA ls H locs C hP hF hL hl
  refine lv_lstore_n (rest := st.map (et_em B)) C.1 C.2.1 hdg hi hl hn rfl (fun ls' hl' => ?_)
  subst hs
  exact k p l e R s m args below meth c B D dA ls' H locs C hP hF hL (et_sub hl' (et_st2 (v := .long x) hv))
theorem et_lstore {i : Nat} {x : Int64} {lv' : List (Option Value)} (hdg : decode Y.2.1 pc = .ok (.lstore i, 2)) (hn : i + 1 < Y.2.2.1) (hv : et_pv lv i = true) (hs : (lv.set i (some (.long x))).set (i + 1) none = lv') (k : et_M sc Y d mc ms Post (pc + 2) lv' (st) h n nc ns) : et_M sc Y d mc ms Post (pc) lv (.long x :: st) h n nc ns := by
  intro p l e R s m args below meth c B D dA ls H locs C hP hF hL hl
  refine lv_lstore (rest := st.map (et_em B)) C.1 C.2.1 hdg hl hn rfl (fun ls' hl' => ?_)
  subst hs
  exact k p l e R s m args below meth c B D dA ls' H locs C hP hF hL (et_sub hl' (et_st2 (v := .long x) hv))
theorem et_iinc {i : Nat} {z : Int} {x v : Int32} {lv' : List (Option Value)} (hdg : decode Y.2.1 pc = .ok (.iinc i z, 3)) (hj : lv[i]? = some (some (.int x))) (hz : x + Int32.ofInt z = v) (hn : i < Y.2.2.1) (hv : et_pv lv i = true) (hs : lv.set i (some (.int v)) = lv') (k : et_M sc Y d mc ms Post (pc + 3) lv' (st) h n nc ns) : et_M sc Y d mc ms Post (pc) lv (st) h n nc ns := by
  intro p l e R s m args below meth c B D dA ls H locs C hP hF hL hl
  obtain ⟨kx, hkx⟩ := List.getElem?_of_mem ((et_ll_mem (B := B) lv 0 (i, .int x)).mpr ⟨i, .int x, hj, by simp [et_em]⟩)
  refine lv_iinc (rest := st.map (et_em B)) C.1 C.2.1 hdg hl hkx hz hn rfl (fun ls' hl' => ?_)
  subst hs
  exact k p l e R s m args below meth c B D dA ls' H locs C hP hF hL (et_sub hl' (et_st1 (v := .int v) hv))
theorem et_iadd {x y : Int32} (hdg : decode Y.2.1 pc = .ok (.iadd, 1))  (k : et_M sc Y d mc ms Post (pc + 1) lv (.int (x + y) :: st) h n nc ns) : et_M sc Y d mc ms Post (pc) lv (.int y :: .int x :: st) h n nc ns := by
  intro p l e R s m args below meth c B D dA ls H locs C hP hF hL hl
  exact lv_iadd (rest := st.map (et_em B)) C.1 C.2.1 hdg  (k p l e R s m args below meth c B D dA ls H locs C hP hF hL hl)
theorem et_isub {x y : Int32} (hdg : decode Y.2.1 pc = .ok (.isub, 1))  (k : et_M sc Y d mc ms Post (pc + 1) lv (.int (x - y) :: st) h n nc ns) : et_M sc Y d mc ms Post (pc) lv (.int y :: .int x :: st) h n nc ns := by
  intro p l e R s m args below meth c B D dA ls H locs C hP hF hL hl
  exact lv_isub (rest := st.map (et_em B)) C.1 C.2.1 hdg  (k p l e R s m args below meth c B D dA ls H locs C hP hF hL hl)
theorem et_imul {x y : Int32} (hdg : decode Y.2.1 pc = .ok (.imul, 1))  (k : et_M sc Y d mc ms Post (pc + 1) lv (.int (x * y) :: st) h n nc ns) : et_M sc Y d mc ms Post (pc) lv (.int y :: .int x :: st) h n nc ns := by
  intro p l e R s m args below meth c B D dA ls H locs C hP hF hL hl
  exact lv_imul (rest := st.map (et_em B)) C.1 C.2.1 hdg  (k p l e R s m args below meth c B D dA ls H locs C hP hF hL hl)
theorem et_iand {x y : Int32} (hdg : decode Y.2.1 pc = .ok (.iand, 1))  (k : et_M sc Y d mc ms Post (pc + 1) lv (.int (x &&& y) :: st) h n nc ns) : et_M sc Y d mc ms Post (pc) lv (.int y :: .int x :: st) h n nc ns := by
  intro p l e R s m args below meth c B D dA ls H locs C hP hF hL hl
  exact lv_iand (rest := st.map (et_em B)) C.1 C.2.1 hdg  (k p l e R s m args below meth c B D dA ls H locs C hP hF hL hl)
theorem et_ior {x y : Int32} (hdg : decode Y.2.1 pc = .ok (.ior, 1))  (k : et_M sc Y d mc ms Post (pc + 1) lv (.int (x ||| y) :: st) h n nc ns) : et_M sc Y d mc ms Post (pc) lv (.int y :: .int x :: st) h n nc ns := by
  intro p l e R s m args below meth c B D dA ls H locs C hP hF hL hl
  exact lv_ior (rest := st.map (et_em B)) C.1 C.2.1 hdg  (k p l e R s m args below meth c B D dA ls H locs C hP hF hL hl)
theorem et_ixor {x y : Int32} (hdg : decode Y.2.1 pc = .ok (.ixor, 1))  (k : et_M sc Y d mc ms Post (pc + 1) lv (.int (x ^^^ y) :: st) h n nc ns) : et_M sc Y d mc ms Post (pc) lv (.int y :: .int x :: st) h n nc ns := by
  intro p l e R s m args below meth c B D dA ls H locs C hP hF hL hl
  exact lv_ixor (rest := st.map (et_em B)) C.1 C.2.1 hdg  (k p l e R s m args below meth c B D dA ls H locs C hP hF hL hl)
theorem et_ineg {x : Int32} (hdg : decode Y.2.1 pc = .ok (.ineg, 1))  (k : et_M sc Y d mc ms Post (pc + 1) lv (.int (-x) :: st) h n nc ns) : et_M sc Y d mc ms Post (pc) lv (.int x :: st) h n nc ns := by
  intro p l e R s m args below meth c B D dA ls H locs C hP hF hL hl
  exact lv_ineg (rest := st.map (et_em B)) C.1 C.2.1 hdg  (k p l e R s m args below meth c B D dA ls H locs C hP hF hL hl)
theorem et_ladd {x y : Int64} (hdg : decode Y.2.1 pc = .ok (.ladd, 1))  (k : et_M sc Y d mc ms Post (pc + 1) lv (.long (x + y) :: st) h n nc ns) : et_M sc Y d mc ms Post (pc) lv (.long y :: .long x :: st) h n nc ns := by
  intro p l e R s m args below meth c B D dA ls H locs C hP hF hL hl
  exact lv_ladd (rest := st.map (et_em B)) C.1 C.2.1 hdg  (k p l e R s m args below meth c B D dA ls H locs C hP hF hL hl)
theorem et_lsub {x y : Int64} (hdg : decode Y.2.1 pc = .ok (.lsub, 1))  (k : et_M sc Y d mc ms Post (pc + 1) lv (.long (x - y) :: st) h n nc ns) : et_M sc Y d mc ms Post (pc) lv (.long y :: .long x :: st) h n nc ns := by
  intro p l e R s m args below meth c B D dA ls H locs C hP hF hL hl
  exact lv_lsub (rest := st.map (et_em B)) C.1 C.2.1 hdg  (k p l e R s m args below meth c B D dA ls H locs C hP hF hL hl)
theorem et_lmul {x y : Int64} (hdg : decode Y.2.1 pc = .ok (.lmul, 1))  (k : et_M sc Y d mc ms Post (pc + 1) lv (.long (x * y) :: st) h n nc ns) : et_M sc Y d mc ms Post (pc) lv (.long y :: .long x :: st) h n nc ns := by
  intro p l e R s m args below meth c B D dA ls H locs C hP hF hL hl
  exact lv_lmul (rest := st.map (et_em B)) C.1 C.2.1 hdg  (k p l e R s m args below meth c B D dA ls H locs C hP hF hL hl)
theorem et_land {x y : Int64} (hdg : decode Y.2.1 pc = .ok (.land, 1))  (k : et_M sc Y d mc ms Post (pc + 1) lv (.long (x &&& y) :: st) h n nc ns) : et_M sc Y d mc ms Post (pc) lv (.long y :: .long x :: st) h n nc ns := by
  intro p l e R s m args below meth c B D dA ls H locs C hP hF hL hl
  exact lv_land (rest := st.map (et_em B)) C.1 C.2.1 hdg  (k p l e R s m args below meth c B D dA ls H locs C hP hF hL hl)
theorem et_lor {x y : Int64} (hdg : decode Y.2.1 pc = .ok (.lor, 1))  (k : et_M sc Y d mc ms Post (pc + 1) lv (.long (x ||| y) :: st) h n nc ns) : et_M sc Y d mc ms Post (pc) lv (.long y :: .long x :: st) h n nc ns := by
  intro p l e R s m args below meth c B D dA ls H locs C hP hF hL hl
  exact lv_lor (rest := st.map (et_em B)) C.1 C.2.1 hdg  (k p l e R s m args below meth c B D dA ls H locs C hP hF hL hl)
theorem et_ishl {x y : Int32} (hdg : decode Y.2.1 pc = .ok (.ishl, 1))  (k : et_M sc Y d mc ms Post (pc + 1) lv (.int (x <<< (y &&& 31)) :: st) h n nc ns) : et_M sc Y d mc ms Post (pc) lv (.int y :: .int x :: st) h n nc ns := by
  intro p l e R s m args below meth c B D dA ls H locs C hP hF hL hl
  exact lv_ishl (rest := st.map (et_em B)) C.1 C.2.1 hdg  (k p l e R s m args below meth c B D dA ls H locs C hP hF hL hl)
theorem et_ishr {x y : Int32} (hdg : decode Y.2.1 pc = .ok (.ishr, 1))  (k : et_M sc Y d mc ms Post (pc + 1) lv (.int (x >>> (y &&& 31)) :: st) h n nc ns) : et_M sc Y d mc ms Post (pc) lv (.int y :: .int x :: st) h n nc ns := by
  intro p l e R s m args below meth c B D dA ls H locs C hP hF hL hl
  exact lv_ishr (rest := st.map (et_em B)) C.1 C.2.1 hdg  (k p l e R s m args below meth c B D dA ls H locs C hP hF hL hl)
theorem et_i2l {x : Int32} {v : Int64} (hdg : decode Y.2.1 pc = .ok (.i2l, 1)) (hv : x.toInt64 = v) (k : et_M sc Y d mc ms Post (pc + 1) lv (.long v :: st) h n nc ns) : et_M sc Y d mc ms Post (pc) lv (.int x :: st) h n nc ns := by
  intro p l e R s m args below meth c B D dA ls H locs C hP hF hL hl
  exact lv_i2l (rest := st.map (et_em B)) C.1 C.2.1 hdg hv (k p l e R s m args below meth c B D dA ls H locs C hP hF hL hl)
theorem et_l2i {x : Int64} {v : Int32} (hdg : decode Y.2.1 pc = .ok (.l2i, 1)) (hv : x.toInt32 = v) (k : et_M sc Y d mc ms Post (pc + 1) lv (.int v :: st) h n nc ns) : et_M sc Y d mc ms Post (pc) lv (.long x :: st) h n nc ns := by
  intro p l e R s m args below meth c B D dA ls H locs C hP hF hL hl
  exact lv_l2i (rest := st.map (et_em B)) C.1 C.2.1 hdg hv (k p l e R s m args below meth c B D dA ls H locs C hP hF hL hl)
theorem et_lushr {x v : Int64} {y : Int32} (hdg : decode Y.2.1 pc = .ok (.lushr, 1)) (hv : (x.toUInt64 >>> (y.toInt64.toUInt64 &&& Int64.toUInt64 63)).toInt64 = v) (k : et_M sc Y d mc ms Post (pc + 1) lv (.long v :: st) h n nc ns) : et_M sc Y d mc ms Post (pc) lv (.int y :: .long x :: st) h n nc ns := by
  intro p l e R s m args below meth c B D dA ls H locs C hP hF hL hl
  exact lv_lushr (rest := st.map (et_em B)) C.1 C.2.1 hdg hv (k p l e R s m args below meth c B D dA ls H locs C hP hF hL hl)
theorem et_lshl {x v : Int64} {y : Int32} (hdg : decode Y.2.1 pc = .ok (.lshl, 1)) (hv : x <<< (y.toInt64 &&& 63) = v) (k : et_M sc Y d mc ms Post (pc + 1) lv (.long v :: st) h n nc ns) : et_M sc Y d mc ms Post (pc) lv (.int y :: .long x :: st) h n nc ns := by
  intro p l e R s m args below meth c B D dA ls H locs C hP hF hL hl
  exact lv_lshl (rest := st.map (et_em B)) C.1 C.2.1 hdg hv (k p l e R s m args below meth c B D dA ls H locs C hP hF hL hl)
theorem et_lcmp {x y : Int64} (hdg : decode Y.2.1 pc = .ok (.lcmp, 1))  (k : et_M sc Y d mc ms Post (pc + 1) lv (.int (lg_cmp x y) :: st) h n nc ns) : et_M sc Y d mc ms Post (pc) lv (.long y :: .long x :: st) h n nc ns := by
  intro p l e R s m args below meth c B D dA ls H locs C hP hF hL hl
  exact W.lcmp (rest := st.map (et_em B)) C.1 C.2.1 hdg  (k p l e R s m args below meth c B D dA ls H locs C hP hF hL hl)
theorem et_dup {v : Value} (hdg : decode Y.2.1 pc = .ok (.dup, 1)) (hv : v.category = 1) (k : et_M sc Y d mc ms Post (pc + 1) lv (v :: v :: st) h n nc ns) : et_M sc Y d mc ms Post (pc) lv (v :: st) h n nc ns := by
  intro p l e R s m args below meth c B D dA ls H locs C hP hF hL hl
  exact lv_dup (rest := st.map (et_em B)) C.1 C.2.1 hdg ((et_em_cat B v).trans hv) (k p l e R s m args below meth c B D dA ls H locs C hP hF hL hl)
theorem et_pop {v : Value} (hdg : decode Y.2.1 pc = .ok (.pop, 1)) (hv : v.category = 1) (k : et_M sc Y d mc ms Post (pc + 1) lv (st) h n nc ns) : et_M sc Y d mc ms Post (pc) lv (v :: st) h n nc ns := by
  intro p l e R s m args below meth c B D dA ls H locs C hP hF hL hl
  exact lv_pop (rest := st.map (et_em B)) C.1 C.2.1 hdg ((et_em_cat B v).trans hv) (k p l e R s m args below meth c B D dA ls H locs C hP hF hL hl)
theorem et_dup_x1 {v w : Value} (hdg : decode Y.2.1 pc = .ok (.dup_x1, 1)) (hv : v.category = 1) (hw : w.category = 1) (k : et_M sc Y d mc ms Post (pc + 1) lv (v :: w :: v :: st) h n nc ns) : et_M sc Y d mc ms Post (pc) lv (v :: w :: st) h n nc ns := by
  intro p l e R s m args below meth c B D dA ls H locs C hP hF hL hl
  exact lv_dup_x1 (rest := st.map (et_em B)) C.1 C.2.1 hdg ((et_em_cat B v).trans hv) ((et_em_cat B w).trans hw) (k p l e R s m args below meth c B D dA ls H locs C hP hF hL hl)
theorem et_dup_x2 {v w u : Value} (hdg : decode Y.2.1 pc = .ok (.dup_x2, 1)) (hv : v.category = 1) (hw : w.category = 1) (hu : u.category = 1) (k : et_M sc Y d mc ms Post (pc + 1) lv (v :: w :: u :: v :: st) h n nc ns) : et_M sc Y d mc ms Post (pc) lv (v :: w :: u :: st) h n nc ns := by
  intro p l e R s m args below meth c B D dA ls H locs C hP hF hL hl
  exact lv_dup_x2 (rest := st.map (et_em B)) C.1 C.2.1 hdg ((et_em_cat B v).trans hv) ((et_em_cat B w).trans hw) ((et_em_cat B u).trans hu) (k p l e R s m args below meth c B D dA ls H locs C hP hF hL hl)
theorem et_dup2 {v w : Value} (hdg : decode Y.2.1 pc = .ok (.dup2, 1)) (hv : v.category = 1) (hw : w.category = 1) (k : et_M sc Y d mc ms Post (pc + 1) lv (v :: w :: v :: w :: st) h n nc ns) : et_M sc Y d mc ms Post (pc) lv (v :: w :: st) h n nc ns := by
  intro p l e R s m args below meth c B D dA ls H locs C hP hF hL hl
  exact lv_dup2_11 (rest := st.map (et_em B)) C.1 C.2.1 hdg ((et_em_cat B v).trans hv) ((et_em_cat B w).trans hw) (k p l e R s m args below meth c B D dA ls H locs C hP hF hL hl)
theorem et_if_eq {x : Int32} {off : Int} {tgt : Nat} (hdg : decode Y.2.1 pc = .ok (.ifCond .eq off, 3)) (ht : (pc : Int) + off = (tgt : Int)) (kt : (x = 0) → et_M sc Y d mc ms Post (tgt) lv (st) h n nc ns) (kf : ¬ (x = 0) → et_M sc Y d mc ms Post (pc + 3) lv (st) h n nc ns) : et_M sc Y d mc ms Post (pc) lv (.int x :: st) h n nc ns := by
  intro p l e R s m args below meth c B D dA ls H locs C hP hF hL hl
  exact lv_if_eq (rest := st.map (et_em B)) C.1 C.2.1 hdg ht (fun q => kt q p l e R s m args below meth c B D dA ls H locs C hP hF hL hl) (fun q => kf q p l e R s m args below meth c B D dA ls H locs C hP hF hL hl)
theorem et_icmp_eq {x y : Int32} {off : Int} {tgt : Nat} (hdg : decode Y.2.1 pc = .ok (.if_icmp .eq off, 3)) (ht : (pc : Int) + off = (tgt : Int)) (kt : (x = y) → et_M sc Y d mc ms Post (tgt) lv (st) h n nc ns) (kf : ¬ (x = y) → et_M sc Y d mc ms Post (pc + 3) lv (st) h n nc ns) : et_M sc Y d mc ms Post (pc) lv (.int y :: .int x :: st) h n nc ns := by
  intro p l e R s m args below meth c B D dA ls H locs C hP hF hL hl
  exact lv_icmp_eq (rest := st.map (et_em B)) C.1 C.2.1 hdg ht (fun q => kt q p l e R s m args below meth c B D dA ls H locs C hP hF hL hl) (fun q => kf q p l e R s m args below meth c B D dA ls H locs C hP hF hL hl)
theorem et_if_ne {x : Int32} {off : Int} {tgt : Nat} (hdg : decode Y.2.1 pc = .ok (.ifCond .ne off, 3)) (ht : (pc : Int) + off = (tgt : Int)) (kt : (¬ x = 0) → et_M sc Y d mc ms Post (tgt) lv (st) h n nc ns) (kf : (x = 0) → et_M sc Y d mc ms Post (pc + 3) lv (st) h n nc ns) : et_M sc Y d mc ms Post (pc) lv (.int x :: st) h n nc ns := by
  intro p l e R s m args below meth c B D dA ls H locs C hP hF hL hl
  exact lv_if_ne (rest := st.map (et_em B)) C.1 C.2.1 hdg ht (fun q => kt q p l e R s m args below meth c B D dA ls H locs C hP hF hL hl) (fun q => kf q p l e R s m args below meth c B D dA ls H locs C hP hF hL hl)
theorem et_icmp_ne {x y : Int32} {off : Int} {tgt : Nat} (hdg : decode Y.2.1 pc = .ok (.if_icmp .ne off, 3)) (ht : (pc : Int) + off = (tgt : Int)) (kt : (¬ x = y) → et_M sc Y d mc ms Post (tgt) lv (st) h n nc ns) (kf : (x = y) → et_M sc Y d mc ms Post (pc + 3) lv (st) h n nc ns) : et_M sc Y d mc ms Post (pc) lv (.int y :: .int x :: st) h n nc ns := by
  intro p l e R s m args below meth c B D dA ls H locs C hP hF hL hl
  exact lv_icmp_ne (rest := st.map (et_em B)) C.1 C.2.1 hdg ht (fun q => kt q p l e R s m args below meth c B D dA ls H locs C hP hF hL hl) (fun q => kf q p l e R s m args below meth c B D dA ls H locs C hP hF hL hl)
theorem et_if_lt {x : Int32} {off : Int} {tgt : Nat} (hdg : decode Y.2.1 pc = .ok (.ifCond .lt off, 3)) (ht : (pc : Int) + off = (tgt : Int)) (kt : (x < 0) → et_M sc Y d mc ms Post (tgt) lv (st) h n nc ns) (kf : ¬ (x < 0) → et_M sc Y d mc ms Post (pc + 3) lv (st) h n nc ns) : et_M sc Y d mc ms Post (pc) lv (.int x :: st) h n nc ns := by
  intro p l e R s m args below meth c B D dA ls H locs C hP hF hL hl
  exact lv_if_lt (rest := st.map (et_em B)) C.1 C.2.1 hdg ht (fun q => kt q p l e R s m args below meth c B D dA ls H locs C hP hF hL hl) (fun q => kf q p l e R s m args below meth c B D dA ls H locs C hP hF hL hl)
theorem et_icmp_lt {x y : Int32} {off : Int} {tgt : Nat} (hdg : decode Y.2.1 pc = .ok (.if_icmp .lt off, 3)) (ht : (pc : Int) + off = (tgt : Int)) (kt : (x < y) → et_M sc Y d mc ms Post (tgt) lv (st) h n nc ns) (kf : ¬ (x < y) → et_M sc Y d mc ms Post (pc + 3) lv (st) h n nc ns) : et_M sc Y d mc ms Post (pc) lv (.int y :: .int x :: st) h n nc ns := by
  intro p l e R s m args below meth c B D dA ls H locs C hP hF hL hl
  exact lv_icmp_lt (rest := st.map (et_em B)) C.1 C.2.1 hdg ht (fun q => kt q p l e R s m args below meth c B D dA ls H locs C hP hF hL hl) (fun q => kf q p l e R s m args below meth c B D dA ls H locs C hP hF hL hl)
theorem et_if_ge {x : Int32} {off : Int} {tgt : Nat} (hdg : decode Y.2.1 pc = .ok (.ifCond .ge off, 3)) (ht : (pc : Int) + off = (tgt : Int)) (kt : (0 ≤ x) → et_M sc Y d mc ms Post (tgt) lv (st) h n nc ns) (kf : ¬ (0 ≤ x) → et_M sc Y d mc ms Post (pc + 3) lv (st) h n nc ns) : et_M sc Y d mc ms Post (pc) lv (.int x :: st) h n nc ns := by
  intro p l e R s m args below meth c B D dA ls H locs C hP hF hL hl
  exact lv_if_ge (rest := st.map (et_em B)) C.1 C.2.1 hdg ht (fun q => kt q p l e R s m args below meth c B D dA ls H locs C hP hF hL hl) (fun q => kf q p l e R s m args below meth c B D dA ls H locs C hP hF hL hl)
theorem et_icmp_ge {x y : Int32} {off : Int} {tgt : Nat} (hdg : decode Y.2.1 pc = .ok (.if_icmp .ge off, 3)) (ht : (pc : Int) + off = (tgt : Int)) (kt : (y ≤ x) → et_M sc Y d mc ms Post (tgt) lv (st) h n nc ns) (kf : ¬ (y ≤ x) → et_M sc Y d mc ms Post (pc + 3) lv (st) h n nc ns) : et_M sc Y d mc ms Post (pc) lv (.int y :: .int x :: st) h n nc ns := by
  intro p l e R s m args below meth c B D dA ls H locs C hP hF hL hl
  exact lv_icmp_ge (rest := st.map (et_em B)) C.1 C.2.1 hdg ht (fun q => kt q p l e R s m args below meth c B D dA ls H locs C hP hF hL hl) (fun q => kf q p l e R s m args below meth c B D dA ls H locs C hP hF hL hl)
theorem et_if_gt {x : Int32} {off : Int} {tgt : Nat} (hdg : decode Y.2.1 pc = .ok (.ifCond .gt off, 3)) (ht : (pc : Int) + off = (tgt : Int)) (kt : (0 < x) → et_M sc Y d mc ms Post (tgt) lv (st) h n nc ns) (kf : ¬ (0 < x) → et_M sc Y d mc ms Post (pc + 3) lv (st) h n nc ns) : et_M sc Y d mc ms Post (pc) lv (.int x :: st) h n nc ns := by
  intro p l e R s m args below meth c B D dA ls H locs C hP hF hL hl
  exact lv_if_gt (rest := st.map (et_em B)) C.1 C.2.1 hdg ht (fun q => kt q p l e R s m args below meth c B D dA ls H locs C hP hF hL hl) (fun q => kf q p l e R s m args below meth c B D dA ls H locs C hP hF hL hl)
theorem et_icmp_gt {x y : Int32} {off : Int} {tgt : Nat} (hdg : decode Y.2.1 pc = .ok (.if_icmp .gt off, 3)) (ht : (pc : Int) + off = (tgt : Int)) (kt : (y < x) → et_M sc Y d mc ms Post (tgt) lv (st) h n nc ns) (kf : ¬ (y < x) → et_M sc Y d mc ms Post (pc + 3) lv (st) h n nc ns) : et_M sc Y d mc ms Post (pc) lv (.int y :: .int x :: st) h n nc ns := by
  intro p l e R s m args below meth c B D dA ls H locs C hP hF hL hl
  exact lv_icmp_gt (rest := st.map (et_em B)) C.1 C.2.1 hdg ht (fun q => kt q p l e R s m args below meth c B D dA ls H locs C hP hF hL hl) (fun q => kf q p l e R s m args below meth c B D dA ls H locs C hP hF hL hl)
theorem et_if_le {x : Int32} {off : Int} {tgt : Nat} (hdg : decode Y.2.1 pc = .ok (.ifCond .le off, 3)) (ht : (pc : Int) + off = (tgt : Int)) (kt : (x ≤ 0) → et_M sc Y d mc ms Post (tgt) lv (st) h n nc ns) (kf : ¬ (x ≤ 0) → et_M sc Y d mc ms Post (pc + 3) lv (st) h n nc ns) : et_M sc Y d mc ms Post (pc) lv (.int x :: st) h n nc ns := by
  intro p l e R s m args below meth c B D dA ls H locs C hP hF hL hl
  exact lv_if_le (rest := st.map (et_em B)) C.1 C.2.1 hdg ht (fun q => kt q p l e R s m args below meth c B D dA ls H locs C hP hF hL hl) (fun q => kf q p l e R s m args below meth c B D dA ls H locs C hP hF hL hl)
theorem et_icmp_le {x y : Int32} {off : Int} {tgt : Nat} (hdg : decode Y.2.1 pc = .ok (.if_icmp .le off, 3)) (ht : (pc : Int) + off = (tgt : Int)) (kt : (x ≤ y) → et_M sc Y d mc ms Post (tgt) lv (st) h n nc ns) (kf : ¬ (x ≤ y) → et_M sc Y d mc ms Post (pc + 3) lv (st) h n nc ns) : et_M sc Y d mc ms Post (pc) lv (.int y :: .int x :: st) h n nc ns := by
  intro p l e R s m args below meth c B D dA ls H locs C hP hF hL hl
  exact lv_icmp_le (rest := st.map (et_em B)) C.1 C.2.1 hdg ht (fun q => kt q p l e R s m args below meth c B D dA ls H locs C hP hF hL hl) (fun q => kf q p l e R s m args below meth c B D dA ls H locs C hP hF hL hl)
theorem et_goto {off : Int} {tgt : Nat} (hdg : decode Y.2.1 pc = .ok (.goto off, 3)) (ht : (pc : Int) + off = (tgt : Int)) (k : et_M sc Y d mc ms Post (tgt) lv (st) h n nc ns) : et_M sc Y d mc ms Post (pc) lv (st) h n nc ns := by
  intro p l e R s m args below meth c B D dA ls H locs C hP hF hL hl
  exact lv_goto C.1 C.2.1 hdg ht (k p l e R s m args below meth c B D dA ls H locs C hP hF hL hl)
theorem et_ldc {index : Nat} {v : Int32} (hdg : decode Y.2.1 pc = .ok (.ldc index, 2)) (hw : Cond.constant Y.1.cls index v ∈ et_W) (k : et_M sc Y d mc ms Post (pc + 2) lv (.int v :: st) h n nc ns) : et_M sc Y d mc ms Post (pc) lv (st) h n nc ns := by
  intro p l e R s m args below meth c B D dA ls H locs C hP hF hL hl
  exact lv_ldc C.1 C.2.1 C.own (C.hts _ hw) hdg (k p l e R s m args below meth c B D dA ls H locs C hP hF hL hl)
theorem et_ldc2 {index : Nat} {v : Int64} (hdg : decode Y.2.1 pc = .ok (.ldc2_w index, 3)) (hw : Cond.constantLong Y.1.cls index v ∈ et_W) (k : et_M sc Y d mc ms Post (pc + 3) lv (.long v :: st) h n nc ns) : et_M sc Y d mc ms Post (pc) lv (st) h n nc ns := by
  intro p l e R s m args below meth c B D dA ls H locs C hP hF hL hl
  exact lv_ldc2 C.1 C.2.1 C.own (C.hts _ hw) hdg (k p l e R s m args below meth c B D dA ls H locs C hP hF hL hl)
theorem et_lookup {dflt : Int} {ps : Array (Int × Int)} {len : Nat} {x : Int32} {off : Int} {tgt : Nat} (hdg : decode Y.2.1 pc = .ok (.lookupswitch dflt ps, len)) (hp : (ps.toList.zip (ps.toList.drop 1)).all (fun (a, next) => a.1 < next.1) = true) (ho : Op.lookupswitch.offset ps.toList dflt x.toInt = off) (ht : (pc : Int) + off = (tgt : Int)) (k : et_M sc Y d mc ms Post (tgt) lv (st) h n nc ns) : et_M sc Y d mc ms Post (pc) lv (.int x :: st) h n nc ns := by
  intro p l e R s m args below meth c B D dA ls H locs C hP hF hL hl
  exact lv_lookup (rest := st.map (et_em B)) C.1 C.2.1 hdg hp ho ht (k p l e R s m args below meth c B D dA ls H locs C hP hF hL hl)
theorem et_tableOut {dflt lo hi : Int} {offs : Array Int} {len : Nat} {x : Int32} {tgt : Nat} (hdg : decode Y.2.1 pc = .ok (.tableswitch dflt lo hi offs, len)) (hx : x.toInt < lo ∨ hi < x.toInt) (ht : (pc : Int) + dflt = (tgt : Int)) (k : et_M sc Y d mc ms Post (tgt) lv (st) h n nc ns) : et_M sc Y d mc ms Post (pc) lv (.int x :: st) h n nc ns := by
  intro p l e R s m args below meth c B D dA ls H locs C hP hF hL hl
  exact lv_tableOut (rest := st.map (et_em B)) C.1 C.2.1 hdg hx ht (k p l e R s m args below meth c B D dA ls H locs C hP hF hL hl)
theorem et_tableIn {dflt lo hi : Int} {offs : Array Int} {len : Nat} {x : Int32} {off : Int} {tgt : Nat} (hdg : decode Y.2.1 pc = .ok (.tableswitch dflt lo hi offs, len)) (h1 : ¬ x.toInt < lo) (h2 : ¬ hi < x.toInt) (ho : offs[(x.toInt - lo).toNat]? = some off) (ht : (pc : Int) + off = (tgt : Int)) (k : et_M sc Y d mc ms Post (tgt) lv (st) h n nc ns) : et_M sc Y d mc ms Post (pc) lv (.int x :: st) h n nc ns := by
  intro p l e R s m args below meth c B D dA ls H locs C hP hF hL hl
  exact lv_tableIn (rest := st.map (et_em B)) C.1 C.2.1 hdg h1 h2 ho ht (k p l e R s m args below meth c B D dA ls H locs C hP hF hL hl)
theorem et_iret {v : Int32} (hdg : decode Y.2.1 pc = .ok (.ireturn, 1)) (hr : Y.2.2.2.1 = some .int) (h1 : nc ≤ mc) (h2 : ns ≤ ms) (hp : Post (.inl (some (.int v))) h n) : et_M sc Y d mc ms Post (pc) lv ([.int v]) h n nc ns := by
  intro p l e R s m args below meth c B D dA ls H locs C hP hF hL hl
  refine W.widen h1 h2 (et_mono (fun t ht => et_Q_of ht) (W.iret (v := v) (free := fun q => B ≤ q) C.1 C.2.1 (C.ret.trans hr) (fun t ht hW => ⟨⟨_, h, n, hp, by rw [ht]; exact hP, rfl⟩, fun q hq => by rw [ht]; exact hF q hq⟩) hL hdg (hlocks := C.locks)))
theorem et_zret {v : Int32} (hdg : decode Y.2.1 pc = .ok (.ireturn, 1)) (hr : Y.2.2.2.1 = some .boolean) (hb : narrow .boolean (.int v) = .int v) (h1 : nc ≤ mc) (h2 : ns ≤ ms) (hp : Post (.inl (some (.int v))) h n) : et_M sc Y d mc ms Post (pc) lv ([.int v]) h n nc ns := by
  intro p l e R s m args below meth c B D dA ls H locs C hP hF hL hl
  refine W.widen h1 h2 (et_mono (fun t ht => et_Q_of ht) (W.zret (v := v) (ty := .boolean) (free := fun q => B ≤ q) C.1 C.2.1 (C.ret.trans hr) hb (fun t ht hW => ⟨⟨_, h, n, hp, by rw [ht]; exact hP, rfl⟩, fun q hq => by rw [ht]; exact hF q hq⟩) hL hdg (hlocks := C.locks)))
theorem et_lret {v : Int64} (hdg : decode Y.2.1 pc = .ok (.lreturn, 1)) (hr : Y.2.2.2.1 = some .long) (h1 : nc ≤ mc) (h2 : ns ≤ ms) (hp : Post (.inl (some (.long v))) h n) : et_M sc Y d mc ms Post (pc) lv ([.long v]) h n nc ns := by
  intro p l e R s m args below meth c B D dA ls H locs C hP hF hL hl
  refine W.widen h1 h2 (et_mono (fun t ht => et_Q_of ht) (W.lret (v := v) (free := fun q => B ≤ q) C.1 C.2.1 (C.ret.trans hr) (fun t ht hW => ⟨⟨_, h, n, hp, by rw [ht]; exact hP, rfl⟩, fun q hq => by rw [ht]; exact hF q hq⟩) hL hdg (hlocks := C.locks)))
theorem et_vret  (hdg : decode Y.2.1 pc = .ok (.return_, 1)) (hr : Y.2.2.2.1 = none) (h1 : nc ≤ mc) (h2 : ns ≤ ms) (hp : Post (.inl none) h n) : et_M sc Y d mc ms Post (pc) lv ([]) h n nc ns := by
  intro p l e R s m args below meth c B D dA ls H locs C hP hF hL hl
  refine W.widen h1 h2 (et_mono (fun t ht => et_Q_of ht) (W.vret (free := fun q => B ≤ q) C.1 C.2.1 (C.ret.trans hr) (fun t ht hW => ⟨⟨_, h, n, hp, by rw [ht]; exact hP, rfl⟩, fun q hq => by rw [ht]; exact hF q hq⟩) hL hdg (hlocks := C.locks)))
theorem et_aret {v : Nat} {rt : FieldType} (hdg : decode Y.2.1 pc = .ok (.areturn, 1)) (hr : Y.2.2.2.1 = some rt) (hrt : (∃ n, rt = .object n) ∨ ∃ t, rt = .array t) (h1 : nc ≤ mc) (h2 : ns ≤ ms) (hp : Post (.inl (some (.ref v))) h n) : et_M sc Y d mc ms Post (pc) lv ([.ref v]) h n nc ns := by
  intro p l e R s m args below meth c B D dA ls H locs C hP hF hL hl
  refine W.widen h1 h2 (et_mono (fun t ht => et_Q_of ht) (W.aret (v := .ref (B + v)) (free := fun q => B ≤ q) C.1 C.2.1 (C.ret.trans hr) hrt (Or.inr ⟨_, rfl⟩) (fun t ht hW => ⟨⟨_, h, n, hp, by rw [ht]; exact hP, rfl⟩, fun q hq => by rw [ht]; exact hF q hq⟩) hL hdg (hlocks := C.locks)))
theorem et_getf {k ci index : Nat} (j : Nat) {fs : List Value} {Cn : String} {T : u_T} {N : Nat} {v : Value} (hdg : decode Y.2.1 pc = .ok (.getfield index, 3)) (hh : h k = .inr (ci, fs)) (hc : et_cl[ci]? = some (Cn, T, N)) (hin : ∀ w ∈ u_ws Cn T N, w ∈ et_W) (hj : j < N) (hlk : Cond.fieldLink Y.1.cls index (T j).1 (T j).2.1 (T j).2.2.1 ∈ et_W) (hv : fs[j]? = some v) (kk : et_M sc Y d mc ms Post (pc + 3) lv (v :: st) h n nc ns) : et_M sc Y d mc ms Post (pc) lv (.ref k :: st) h n nc ns := by
  intro p l e R s m args below meth c B D dA ls H locs C hP hF hL hl
  obtain ⟨-, cell, q1, q2, q3, q4⟩ := hP.obj hh hc
  obtain ⟨hS, hfc, kC, hkC, hkind⟩ := C.kk.1 ci _ hc
  obtain ⟨cf, kf, fi, f, hi, hsl⟩ := hS j hj
  refine W.getf (v := et_em B v) (a := B + k) (rest := st.map (et_em B)) C.1 C.2.1 C.own (C.hts _ hlk) hi (u_facts hfc hkC (u_lays C.hts hin hj) hi).1 q1 (by rw [q3]; exact fun h => by cases h) ?_ rfl rfl hdg (kk p l e R s m args below meth c B D dA ls H locs C hP hF hL hl)
  rw [hsl, q4 j hj]
  simp [vp_V, hv]
theorem et_getN {k ci index : Nat} (j : Nat) {fs : List Value} {Cn : String} {T : u_T} {N : Nat} {v : Value} (hdg : decode Y.2.1 pc = .ok (.getfield index, 3)) (hh : h k = .inr (ci, fs)) (hc : et_cl[ci]? = some (Cn, T, N)) (hin : ∀ w ∈ u_ws Cn T N, w ∈ et_W) (hj : j < N) (host : String) (hlk : Cond.fieldLinkNest Y.1.cls index (T j).1 (T j).2.1 (T j).2.2.1 host ∈ et_NST) (hv : fs[j]? = some v) (kk : et_M sc Y d mc ms Post (pc + 3) lv (v :: st) h n nc ns) : et_M sc Y d mc ms Post (pc) lv (.ref k :: st) h n nc ns := by
  intro p l e R s m args below meth c B D dA ls H locs C hP hF hL hl
  obtain ⟨-, cell, q1, q2, q3, q4⟩ := hP.obj hh hc
  obtain ⟨hS, hfc, kC, hkC, hkind⟩ := C.kk.1 ci _ hc
  obtain ⟨cf, kf, fi, f, hi, hsl⟩ := hS j hj
  refine va_Wgetf (v := et_em B v) (a := B + k) (rest := st.map (et_em B)) C.1 C.2.1 C.own (va_Nw.use rfl (C.wd.2.1 _ hlk)) hi (u_facts hfc hkC (u_lays C.hts hin hj) hi).1 q1 (by rw [q3]; exact fun h => by cases h) ?_ rfl rfl hdg (kk p l e R s m args below meth c B D dA ls H locs C hP hF hL hl)
  rw [hsl, q4 j hj]
  simp [vp_V, hv]
theorem et_putf {k ci index : Nat} (j : Nat) {fs : List Value} {Cn : String} {T : u_T} {N : Nat} {v : Value} {ty0 : Nat → FieldType} {ty : FieldType} (hdg : decode Y.2.1 pc = .ok (.putfield index, 3)) (hh : h k = .inr (ci, fs)) (hc : et_cl[ci]? = some (Cn, T, N)) (hin : ∀ w ∈ u_ws Cn T N, w ∈ et_W) (hty : ∀ k, k < N → parseFieldDescriptor (T k).2.2.1 = some (ty0 k)) (hnm : ∀ a, a < N → ∀ b, b < N → a ≠ b → (T a).2.1 ≠ (T b).2.1) (hj : j < N) (hlk : Cond.fieldLink Y.1.cls index (T j).1 (T j).2.1 (T j).2.2.1 ∈ et_W) (hfin : (T j).2.2.2 = false) (hd : ty0 j = ty) (hn : ∀ B, narrow ty (et_em B v) = et_em B v) (hfit : ∀ B, fits ty (et_em B v) = true) (hfl : j < fs.length) {fs' : List Value} (hfs : fs.set j v = fs') (kk : et_M sc Y d mc ms Post (pc + 3) lv (st) (va_up h k (.inr (ci, fs'))) n nc ns) : et_M sc Y d mc ms Post (pc) lv (v :: .ref k :: st) h n nc ns := by
  intro p l e R s m args below meth c B D dA ls H locs C hP hF hL hl
  subst hfs; subst hd
  have hd := hty j hj
  have hap := va_apart (own := Y.1.cls) C.hts hin ty0 hty hnm C.kk hc
  obtain ⟨hk, cell, q1, q2, q3, q4⟩ := hP.obj hh hc
  obtain ⟨hS, hfc, kC, hkC, hkind⟩ := C.kk.1 ci _ hc
  obtain ⟨cf, kf, fi, f, hi, hsl⟩ := hS j hj
  have hlay := C.hts _ (hin _ (u_in_lay hj))
  unfold u_lay at hlay
  rw [if_neg (by rw [hfin]; decide)] at hlay
  have hst := (u_facts hfc hkC (u_lays C.hts hin hj) hi).1
  have h6 := u_store hfc hkC hkind hlay hi hd (hn B) (hfit B)
  refine W.putK (v := et_em B v) (a := B + k) (rest := st.map (et_em B)) C.1 C.2.1 (f := f) ⟨C.own, C.hts _ hlk, ⟨_, _, _, hi⟩, hst⟩ (by rw [q2]; exact h6) q1 q3 (by rw [hsl]; exact k2_hasslot (q4 j hj)) rfl rfl hdg fun H' e1 e2 e3 => ?_
  rw [hsl] at e1
  refine kk p l e R s m args below meth c B D dA ls H' _ C (hP.put hk ⟨_, hc, t_OB.to (V := updV (vp_V (fs.map (et_em B))) j (et_em B v)) ⟨_, e1, q2, q3, t_set q4 hap hj (et_em B v)⟩ (fun i _ => ?_)⟩ e2 e3) (fun q hq => (e3 q (et_ne hq)).trans (hF q hq)) (fun q hq => ?_) hl
  · rw [vp_updV_set (by simpa using hfl) (et_em B v) i, List.map_set]
  · rcases List.mem_append.mp hq with h1 | h1
    · exact hL q h1
    · rw [List.mem_singleton.mp h1]; exact Nat.le_add_right B k
theorem et_putN {k ci index : Nat} (j : Nat) {fs : List Value} {Cn : String} {T : u_T} {N : Nat} {v : Value} {ty0 : Nat → FieldType} {ty : FieldType} (hdg : decode Y.2.1 pc = .ok (.putfield index, 3)) (hh : h k = .inr (ci, fs)) (hc : et_cl[ci]? = some (Cn, T, N)) (hin : ∀ w ∈ u_ws Cn T N, w ∈ et_W) (hty : ∀ k, k < N → parseFieldDescriptor (T k).2.2.1 = some (ty0 k)) (hnm : ∀ a, a < N → ∀ b, b < N → a ≠ b → (T a).2.1 ≠ (T b).2.1) (hj : j < N) (host : String) (hlk : Cond.fieldLinkNest Y.1.cls index (T j).1 (T j).2.1 (T j).2.2.1 host ∈ et_NST) (hfin : (T j).2.2.2 = false) (hd : ty0 j = ty) (hn : ∀ B, narrow ty (et_em B v) = et_em B v) (hfit : ∀ B, fits ty (et_em B v) = true) (hfl : j < fs.length) {fs' : List Value} (hfs : fs.set j v = fs') (kk : et_M sc Y d mc ms Post (pc + 3) lv (st) (va_up h k (.inr (ci, fs'))) n nc ns) : et_M sc Y d mc ms Post (pc) lv (v :: .ref k :: st) h n nc ns := by
  intro p l e R s m args below meth c B D dA ls H locs C hP hF hL hl
  subst hfs; subst hd
  have hd := hty j hj
  have hap := va_apart (own := Y.1.cls) C.hts hin ty0 hty hnm C.kk hc
  obtain ⟨hk, cell, q1, q2, q3, q4⟩ := hP.obj hh hc
  obtain ⟨hS, hfc, kC, hkC, hkind⟩ := C.kk.1 ci _ hc
  obtain ⟨cf, kf, fi, f, hi, hsl⟩ := hS j hj
  have hlay := C.hts _ (hin _ (u_in_lay hj))
  unfold u_lay at hlay
  rw [if_neg (by rw [hfin]; decide)] at hlay
  have hst := (u_facts hfc hkC (u_lays C.hts hin hj) hi).1
  have h6 := u_store hfc hkC hkind hlay hi hd (hn B) (hfit B)
  refine va_WputK (v := et_em B v) (a := B + k) (rest := st.map (et_em B)) C.1 C.2.1 (f := f) C.own (va_Nw.use rfl (C.wd.2.1 _ hlk)) hi hst (by rw [q2]; exact h6) q1 q3 (by rw [hsl]; exact k2_hasslot (q4 j hj)) rfl rfl hdg fun H' e1 e2 e3 => ?_
  rw [hsl] at e1
  refine kk p l e R s m args below meth c B D dA ls H' _ C (hP.put hk ⟨_, hc, t_OB.to (V := updV (vp_V (fs.map (et_em B))) j (et_em B v)) ⟨_, e1, q2, q3, t_set q4 hap hj (et_em B v)⟩ (fun i _ => ?_)⟩ e2 e3) (fun q hq => (e3 q (et_ne hq)).trans (hF q hq)) (fun q hq => ?_) hl
  · rw [vp_updV_set (by simpa using hfl) (et_em B v) i, List.map_set]
  · rcases List.mem_append.mp hq with h1 | h1
    · exact hL q h1
    · rw [List.mem_singleton.mp h1]; exact Nat.le_add_right B k
theorem et_putF {k ci index : Nat} (j : Nat) {fs : List Value} {Cn : String} {T : u_T} {N : Nat} {v : Value} {ty0 : Nat → FieldType} {ty : FieldType} (hdg : decode Y.2.1 pc = .ok (.putfield index, 3)) (hh : h k = .inr (ci, fs)) (hc : et_cl[ci]? = some (Cn, T, N)) (hin : ∀ w ∈ u_ws Cn T N, w ∈ et_W) (hty : ∀ k, k < N → parseFieldDescriptor (T k).2.2.1 = some (ty0 k)) (hnm : ∀ a, a < N → ∀ b, b < N → a ≠ b → (T a).2.1 ≠ (T b).2.1) (hj : j < N) (hlk : Cond.fieldLink Y.1.cls index (T j).1 (T j).2.1 (T j).2.2.1 ∈ et_W) (hfin : (T j).2.2.2 = true) (hini : Y.1.name = "<init>") (hdecl : (T j).1 = Y.1.cls) (hd : ty0 j = ty) (hn : ∀ B, narrow ty (et_em B v) = et_em B v) (hfit : ∀ B, fits ty (et_em B v) = true) (hfl : j < fs.length) {fs' : List Value} (hfs : fs.set j v = fs') (kk : et_M sc Y d mc ms Post (pc + 3) lv (st) (va_up h k (.inr (ci, fs'))) n nc ns) : et_M sc Y d mc ms Post (pc) lv (v :: .ref k :: st) h n nc ns := by
  intro p l e R s m args below meth c B D dA ls H locs C hP hF hL hl
  subst hfs; subst hd
  have hd := hty j hj
  have hap := va_apart (own := Y.1.cls) C.hts hin ty0 hty hnm C.kk hc
  obtain ⟨hk, cell, q1, q2, q3, q4⟩ := hP.obj hh hc
  obtain ⟨hS, hfc, kC, hkC, hkind⟩ := C.kk.1 ci _ hc
  obtain ⟨cf, kf, fi, f, hi, hsl⟩ := hS j hj
  have hlay := C.hts _ (hin _ (u_in_lay hj))
  unfold u_lay at hlay
  rw [if_pos hfin] at hlay
  have hst := (u_facts hfc hkC (u_lays C.hts hin hj) hi).1
  have hcf : m.cls = cf := by
    obtain ⟨_, _, c', _, _, _, -, -, hf', -, -, -, hown2, -⟩ := Cond.laysFinal_spec hlay
    have e1 : c' = cf := by have := hi.symm.trans hf'; simp at this; exact this.1.symm
    rw [hdecl] at hown2
    rw [← e1]; exact Option.some.inj (C.own.symm.trans hown2)
  have h6 := u_fits hfc hkC hkind (Or.inr hlay) hi hd (hn B) (hfit B)
  refine W.putFinK (v := et_em B v) (a := B + k) (rest := st.map (et_em B)) C.1 C.2.1 C.own (C.hts _ hlk) hi hst hcf (C.name.trans hini) (by rw [q2]; exact h6) q1 q3 (by rw [hsl]; exact k2_hasslot (q4 j hj)) rfl rfl hdg fun H' e1 e2 e3 => ?_
  rw [hsl] at e1
  refine kk p l e R s m args below meth c B D dA ls H' _ C (hP.put hk ⟨_, hc, t_OB.to (V := updV (vp_V (fs.map (et_em B))) j (et_em B v)) ⟨_, e1, q2, q3, t_set q4 hap hj (et_em B v)⟩ (fun i _ => ?_)⟩ e2 e3) (fun q hq => (e3 q (et_ne hq)).trans (hF q hq)) (fun q hq => ?_) hl
  · rw [vp_updV_set (by simpa using hfl) (et_em B v) i, List.map_set]
  · rcases List.mem_append.mp hq with h1 | h1
    · exact hL q h1
    · rw [List.mem_singleton.mp h1]; exact Nat.le_add_right B k
theorem et_iald {k N : Nat} {f : Nat → Int32} {i : Int32} (hdg : decode Y.2.1 pc = .ok (.iaload, 1)) (hh : h k = .inl (0, N, .inl f)) (hin : vp_in i N) (kk : et_M sc Y d mc ms Post (pc + 1) lv (.int (f i.toNatClampNeg) :: st) h n nc ns) : et_M sc Y d mc ms Post (pc) lv (.int i :: .ref k :: st) h n nc ns := by
  intro p l e R s m args below meth c B D dA ls H locs C hP hF hL hl
  have q1 : H[B + k]? = some (arrV (dA 0) N (fun j => .int (f j))) := (hP.arr hh).2
  have hlt : i.toNatClampNeg < N := Nat.not_le.mp fun q => hin (Or.inr q)
  exact W.iald (v := .int (f i.toNatClampNeg)) (a := B + k) (rest := st.map (et_em B)) C.1 C.2.1 q1 ((C.kk.2 0 _ rfl).1 N (fun j => .int (f j))) (fun q => by cases q) (by show ¬ (i < 0 ∨ (arrV _ _ _).slots.size ≤ _); rw [arrV_size]; exact hin) (by show (arrV _ _ _).slots[_]? = _; rw [arrV_read _ _ hlt]) rfl rfl hdg (kk p l e R s m args below meth c B D dA ls H locs C hP hF hL hl)
theorem et_lald {k N : Nat} {f : Nat → Int64} {i : Int32} (hdg : decode Y.2.1 pc = .ok (.laload, 1)) (hh : h k = .inl (1, N, .inr (.inl f))) (hin : vp_in i N) (kk : et_M sc Y d mc ms Post (pc + 1) lv (.long (f i.toNatClampNeg) :: st) h n nc ns) : et_M sc Y d mc ms Post (pc) lv (.int i :: .ref k :: st) h n nc ns := by
  intro p l e R s m args below meth c B D dA ls H locs C hP hF hL hl
  have q1 : H[B + k]? = some (arrV (dA 1) N (fun j => .long (f j))) := (hP.arr hh).2
  have hlt : i.toNatClampNeg < N := Nat.not_le.mp fun q => hin (Or.inr q)
  exact W.lald (v := .long (f i.toNatClampNeg)) (a := B + k) (rest := st.map (et_em B)) C.1 C.2.1 q1 ((C.kk.2 1 _ rfl).1 N (fun j => .long (f j))) (fun q => by cases q) (by show ¬ (i < 0 ∨ (arrV _ _ _).slots.size ≤ _); rw [arrV_size]; exact hin) (by show (arrV _ _ _).slots[_]? = _; rw [arrV_read _ _ hlt]) rfl rfl hdg (kk p l e R s m args below meth c B D dA ls H locs C hP hF hL hl)
theorem et_zald {k N : Nat} {f : Nat → Int32} {i : Int32} (hdg : decode Y.2.1 pc = .ok (.baload, 1)) (hh : h k = .inl (2, N, .inl f)) (hin : vp_in i N) (kk : et_M sc Y d mc ms Post (pc + 1) lv (.int (f i.toNatClampNeg) :: st) h n nc ns) : et_M sc Y d mc ms Post (pc) lv (.int i :: .ref k :: st) h n nc ns := by
  intro p l e R s m args below meth c B D dA ls H locs C hP hF hL hl
  have q1 : H[B + k]? = some (arrV (dA 2) N (fun j => .int (f j))) := (hP.arr hh).2
  have hlt : i.toNatClampNeg < N := Nat.not_le.mp fun q => hin (Or.inr q)
  exact W.zald (v := .int (f i.toNatClampNeg)) (a := B + k) (rest := st.map (et_em B)) C.1 C.2.1 q1 ((C.kk.2 2 _ rfl).1 N (fun j => .int (f j))) (fun q => by cases q) (by show ¬ (i < 0 ∨ (arrV _ _ _).slots.size ≤ _); rw [arrV_size]; exact hin) (by show (arrV _ _ _).slots[_]? = _; rw [arrV_read _ _ hlt]) rfl rfl hdg (kk p l e R s m args below meth c B D dA ls H locs C hP hF hL hl)
theorem et_iast {k N : Nat} {f : Nat → Int32} {i : Int32} {x : Int32} (hdg : decode Y.2.1 pc = .ok (.iastore, 1)) (hh : h k = .inl (0, N, .inl f)) (hin : vp_in i N) (kk : et_M sc Y d mc ms Post (pc + 1) lv (st) (va_up h k (.inl (0, N, .inl (upd f i.toNatClampNeg x)))) n nc ns) : et_M sc Y d mc ms Post (pc) lv (.int x :: .int i :: .ref k :: st) h n nc ns := by
  intro p l e R s m args below meth c B D dA ls H locs C hP hF hL hl
  have hk := (hP.arr hh).1
  have q1 : H[B + k]? = some (arrV (dA 0) N (fun j => .int (f j))) := (hP.arr hh).2
  refine W.iast (a := B + k) (rest := st.map (et_em B)) C.1 C.2.1 q1 ((C.kk.2 0 _ rfl).1 N (fun j => .int (f j))) (fun q => by cases q) (by show ¬ (i < 0 ∨ (arrV _ _ _).slots.size ≤ _); rw [arrV_size]; exact hin) rfl rfl hdg fun H1 e1 e2 e3 => ?_
  refine kk p l e R s m args below meth c B D dA ls H1 _ C (hP.put hk ?_ e2 e3) (fun q hq => (e3 q (et_ne hq)).trans (hF q hq)) (fun q hq => ?_) hl
  · show H1[B + k]? = some (arrV (dA 0) N (fun j => .int ((upd f i.toNatClampNeg x) j)))
    rw [e1]
    show some ((arrV (dA 0) N (fun j => .int (f j))).setSlot _ _) = _
    rw [arrV_store]
    congr 2
    funext q
    by_cases hq : q = i.toNatClampNeg
    · subst hq; simp [updV, upd]
    · simp [updV, upd, hq]
  · rcases List.mem_append.mp hq with h1 | h1
    · exact hL q h1
    · rw [List.mem_singleton.mp h1]; exact Nat.le_add_right B k
theorem et_last {k N : Nat} {f : Nat → Int64} {i : Int32} {x : Int64} (hdg : decode Y.2.1 pc = .ok (.lastore, 1)) (hh : h k = .inl (1, N, .inr (.inl f))) (hin : vp_in i N) (kk : et_M sc Y d mc ms Post (pc + 1) lv (st) (va_up h k (.inl (1, N, .inr (.inl (vp_updL f i.toNatClampNeg x))))) n nc ns) : et_M sc Y d mc ms Post (pc) lv (.long x :: .int i :: .ref k :: st) h n nc ns := by
  intro p l e R s m args below meth c B D dA ls H locs C hP hF hL hl
  have hk := (hP.arr hh).1
  have q1 : H[B + k]? = some (arrV (dA 1) N (fun j => .long (f j))) := (hP.arr hh).2
  refine W.last (a := B + k) (rest := st.map (et_em B)) C.1 C.2.1 q1 ((C.kk.2 1 _ rfl).1 N (fun j => .long (f j))) (fun q => by cases q) (by show ¬ (i < 0 ∨ (arrV _ _ _).slots.size ≤ _); rw [arrV_size]; exact hin) rfl rfl hdg fun H1 e1 e2 e3 => ?_
  refine kk p l e R s m args below meth c B D dA ls H1 _ C (hP.put hk ?_ e2 e3) (fun q hq => (e3 q (et_ne hq)).trans (hF q hq)) (fun q hq => ?_) hl
  · show H1[B + k]? = some (arrV (dA 1) N (fun j => .long ((vp_updL f i.toNatClampNeg x) j)))
    rw [e1]
    show some ((arrV (dA 1) N (fun j => .long (f j))).setSlot _ _) = _
    rw [arrV_store]
    congr 2
    funext q
    by_cases hq : q = i.toNatClampNeg
    · subst hq; simp [updV, vp_updL]
    · simp [updV, vp_updL, hq]
  · rcases List.mem_append.mp hq with h1 | h1
    · exact hL q h1
    · rw [List.mem_singleton.mp h1]; exact Nat.le_add_right B k
theorem et_zast {k N : Nat} {f : Nat → Int32} {i : Int32} {x : Int32} (hdg : decode Y.2.1 pc = .ok (.bastore, 1)) (hh : h k = .inl (2, N, .inl f)) (hin : vp_in i N) (kk : et_M sc Y d mc ms Post (pc + 1) lv (st) (va_up h k (.inl (2, N, .inl (upd f i.toNatClampNeg (vp_nar .boolean x))))) n nc ns) : et_M sc Y d mc ms Post (pc) lv (.int x :: .int i :: .ref k :: st) h n nc ns := by
  intro p l e R s m args below meth c B D dA ls H locs C hP hF hL hl
  have hk := (hP.arr hh).1
  have q1 : H[B + k]? = some (arrV (dA 2) N (fun j => .int (f j))) := (hP.arr hh).2
  refine W.zast (a := B + k) (rest := st.map (et_em B)) C.1 C.2.1 q1 ((C.kk.2 2 _ rfl).1 N (fun j => .int (f j))) (fun q => by cases q) (by show ¬ (i < 0 ∨ (arrV _ _ _).slots.size ≤ _); rw [arrV_size]; exact hin) rfl rfl hdg fun H1 e1 e2 e3 => ?_
  refine kk p l e R s m args below meth c B D dA ls H1 _ C (hP.put hk ?_ e2 e3) (fun q hq => (e3 q (et_ne hq)).trans (hF q hq)) (fun q hq => ?_) hl
  · show H1[B + k]? = some (arrV (dA 2) N (fun j => .int ((upd f i.toNatClampNeg (vp_nar .boolean x)) j)))
    rw [e1]
    show some ((arrV (dA 2) N (fun j => .int (f j))).setSlot _ _) = _
    rw [arrV_store]
    congr 2
    funext q
    by_cases hq : q = i.toNatClampNeg
    · subst hq; simp [updV, upd, vp_nar] <;> rfl
    · simp [updV, upd, vp_nar, hq]
  · rcases List.mem_append.mp hq with h1 | h1
    · exact hL q h1
    · rw [List.mem_singleton.mp h1]; exact Nat.le_add_right B k
theorem et_alen {k N : Nat} {f : Nat → Int32} {v : Int32} (hdg : decode Y.2.1 pc = .ok (.arraylength, 1)) (hh : h k = .inl (0, N, .inl f)) (hv : Int32.ofNat N = v) (kk : et_M sc Y d mc ms Post (pc + 1) lv (.int v :: st) h n nc ns) : et_M sc Y d mc ms Post (pc) lv (.ref k :: st) h n nc ns := by
  intro p l e R s m args below meth c B D dA ls H locs C hP hF hL hl
  have q1 : H[B + k]? = some (arrV (dA 0) N (fun j => .int (f j))) := (hP.arr hh).2
  subst hv
  exact W.alen (n := Int32.ofNat N) (a := B + k) (rest := st.map (et_em B)) C.1 C.2.1 q1 ((C.kk.2 0 _ rfl).1 N (fun j => .int (f j))) (by show (arrV _ _ _).slots.size.toInt32 = _; rw [arrV_size] <;> rfl) rfl rfl hdg (kk p l e R s m args below meth c B D dA ls H locs C hP hF hL hl)
theorem et_alenL {k N : Nat} {f : Nat → Int64} {v : Int32} (hdg : decode Y.2.1 pc = .ok (.arraylength, 1)) (hh : h k = .inl (1, N, .inr (.inl f))) (hv : Int32.ofNat N = v) (kk : et_M sc Y d mc ms Post (pc + 1) lv (.int v :: st) h n nc ns) : et_M sc Y d mc ms Post (pc) lv (.ref k :: st) h n nc ns := by
  intro p l e R s m args below meth c B D dA ls H locs C hP hF hL hl
  have q1 : H[B + k]? = some (arrV (dA 1) N (fun j => .long (f j))) := (hP.arr hh).2
  subst hv
  exact W.alen (n := Int32.ofNat N) (a := B + k) (rest := st.map (et_em B)) C.1 C.2.1 q1 ((C.kk.2 1 _ rfl).1 N (fun j => .long (f j))) (by show (arrV _ _ _).slots.size.toInt32 = _; rw [arrV_size] <;> rfl) rfl rfl hdg (kk p l e R s m args below meth c B D dA ls H locs C hP hF hL hl)
theorem et_sload {z : Fin 4} {i b : Nat} (hdg : decode Y.2.1 pc = .ok (.aload_n z, 1)) (hi : (z : Nat) = i) (hj : lv[i]? = some (some (.retAddr b))) (k : et_M sc Y d mc ms Post (pc + 1) lv (.retAddr b :: st) h n nc ns) : et_M sc Y d mc ms Post (pc) lv (st) h n nc ns := by
  intro p l e R s m args below meth c B D dA ls H locs C hP hF hL hl
  exact lv_aload_n (x := b) (rest := st.map (et_em B)) C.1 C.2.1 hdg hi (et_ld hl hj) (k p l e R s m args below meth c B D dA ls H locs C hP hF hL hl)
theorem et_sld {i : Int32} (hdg : decode Y.2.1 pc = .ok (.iaload, 1)) (hin : vp_in i sc.2.1) (kk : et_M sc Y d mc ms Post (pc + 1) lv (.int (sc.2.2 i.toNatClampNeg) :: st) h n nc ns) : et_M sc Y d mc ms Post (pc) lv (.int i :: .retAddr sc.1 :: st) h n nc ns := by
  intro p l e R s m args below meth c B D dA ls H locs C hP hF hL hl
  obtain ⟨⟨scr, g1, g2, g3, g4, g5⟩, g6, -⟩ := C.wd.2.2.2.2.2
  have hlt : i.toNatClampNeg < sc.2.1 := Nat.not_le.mp fun q => hin (Or.inr q)
  exact W.iald (v := .int (sc.2.2 i.toNatClampNeg)) (a := sc.1) (rest := st.map (et_em B)) C.1 C.2.1 (by rw [hF _ g6]; exact g1) g2 g3 (by rw [g4]; exact hin) (g5 _ hlt) rfl rfl hdg (kk p l e R s m args below meth c B D dA ls H locs C hP hF hL hl)
theorem et_slen (hdg : decode Y.2.1 pc = .ok (.arraylength, 1)) (kk : et_M sc Y d mc ms Post (pc + 1) lv (.int (Int32.ofNat sc.2.1) :: st) h n nc ns) : et_M sc Y d mc ms Post (pc) lv (.retAddr sc.1 :: st) h n nc ns := by
  intro p l e R s m args below meth c B D dA ls H locs C hP hF hL hl
  obtain ⟨⟨scr, g1, g2, g3, g4, g5⟩, g6, -⟩ := C.wd.2.2.2.2.2
  exact W.alen (n := Int32.ofNat sc.2.1) (a := sc.1) (rest := st.map (et_em B)) C.1 C.2.1 (by rw [hF _ g6]; exact g1) g2 (by rw [g4] <;> rfl) rfl rfl hdg (kk p l e R s m args below meth c B D dA ls H locs C hP hF hL hl)
end ETR
end
section
section ETR2
variable {sc : et_X} {Y : et_Y} {d mc ms : Nat} {Post : et_R → (Nat → et_MC) → Nat → Prop} {pc : Nat} {lv : List (Option Value)} {st : List Value} {h : Nat → et_MC} {n nc ns : Nat}
theorem et_sumc (B : Nat) (st : List Value) : ((st.map (et_em B)).map fun v => v.category).sum = (st.map fun v => v.category).sum := by
  rw [List.map_map]
  congr 1
  exact List.map_congr_left (fun v _ => et_em_cat B v)
theorem et_objInit {k index : Nat} (hdg : decode Y.2.1 pc = .ok (.invokespecial index, 3)) (h1 : Cond.methodLink Y.1.cls index Lib.objectInit ∈ et_W) (h2 : Cond.instanceMethod Lib.objectInit ∈ et_W) (h3 : Cond.code Lib.objectInit ⟨#[0xb1]⟩ 1 none ∈ et_W) (hst : (st.map fun v => v.category).sum ≤ 8)
    (kk : et_M sc Y d mc ms Post (pc + 3) lv st h n nc ns) : et_M sc Y d mc ms Post pc lv (.ref k :: st) h n nc ns := by
  intro p l e R s m args below meth c B D dA ls H locs C hP hF hL hl
  refine W.objInit (a := B + k) (rest := st.map (et_em B)) C.1 C.2.1 C.own (C.hts _ h1) (C.hts _ h2) (C.hts _ h3) rfl (hl.1.trans C.2.2.1.symm) rfl hdg ?_ ?_ (kk p l e R s m args below meth c B D dA ls H locs C hP hF hL hl)
  · rw [C.rm]
    show 1 ≤ 8 + d
    omega
  · rw [C.rm, et_sumc]
    show 2 * 0 + _ + 12 ≤ 120 + 90 * d
    omega
theorem et_new {index ci : Nat} {Cn : String} {T : u_T} {N : Nat} {fs : List Value} {ty0 : Nat → FieldType} (hdg : decode Y.2.1 pc = .ok (.new index, 3)) (hc : et_cl[ci]? = some (Cn, T, N)) (hin : ∀ w ∈ u_ws Cn T N, w ∈ et_W) (hty : ∀ k, k < N → parseFieldDescriptor (T k).2.2.1 = some (ty0 k))
    (hlk : Cond.classLink Y.1.cls index Cn ∈ et_W) (hins : Cond.instantiable Cn N ∈ et_W) (hini : Cond.initialized Cn ∈ et_W) (hfs : ∀ (B j : Nat), j < N → defaultValue (ty0 j) = vp_V (fs.map (et_em B)) j) (h1 : nc + 1 ≤ mc) (h2 : ns + N ≤ ms)
    (kk : et_M sc Y d mc ms Post (pc + 3) lv (.ref n :: st) (va_up h n (.inr (ci, fs))) (n + 1) (nc + 1) (ns + N)) : et_M sc Y d mc ms Post pc lv st h n nc ns := by
  intro p l e R s m args below meth c B D dA ls H locs C hP hF hL hl
  have hKn := C.kk.1 ci _ hc
  refine W.newcK C.1 C.2.1 C.own (C.hts _ hlk) (C.hts _ hins) (C.hts _ hini) rfl hdg (by rw [C.rm]; exact h1) (by rw [C.rm]; exact h2) hKn.2.1 hP.1 fun H1 kC hkC e1 z1 o1 => ?_
  exact kk p l e R s m args below meth c B D dA ls H1 locs C (hP.push (Or.inr ⟨_, hc, (u_born ty0 C.hts hin hKn hkC e1 hty).to (fun j hj => hfs B j hj)⟩) (by rw [z1, hP.1]) (fun q hq => o1 q (by rw [← hP.1]; exact hq))) (fun q hq => (o1 q (by omega)).trans (hF q hq)) hL hl
theorem et_newi {atype : ArrayType} {x : Int32} {N : Nat} (hdg : decode Y.2.1 pc = .ok (.newarray atype, 2)) (hat : newarray.typeOf atype = .int) (hw : Cond.arrayClass .int ∈ et_W) (hx : ¬ x < 0) (hN : x.toNatClampNeg = N) (hb : N * 4 ≤ 536870912) (h1 : nc + 1 ≤ mc) (h2 : ns + N ≤ ms)
    (kk : et_M sc Y d mc ms Post (pc + 2) lv (.ref n :: st) (va_up h n (.inl (0, N, .inl (fun _ => 0)))) (n + 1) (nc + 1) (ns + N)) : et_M sc Y d mc ms Post pc lv (.int x :: st) h n nc ns := by
  intro p l e R s m args below meth c B D dA ls H locs C hP hF hL hl
  refine va_newaK (rest := st.map (et_em B)) C.1 C.2.1 (by rw [hat]; exact C.hts _ hw) rfl hdg rfl hx hN (by rw [hat]; exact hb) (by rw [C.rm]; exact h1) (by rw [C.rm]; exact h2) hP.1 fun H1 cA e1 z1 o1 hA hNm => ?_
  rw [hat] at e1 hNm
  have hcA : cA = dA 0 := Option.some.inj (hNm.symm.trans (C.kk.2 0 _ rfl).2)
  subst hcA
  exact kk p l e R s m args below meth c B D dA ls H1 locs C (hP.push (Or.inr e1) (by rw [z1, hP.1]) (fun q hq => o1 q (by rw [← hP.1]; exact hq))) (fun q hq => (o1 q (by omega)).trans (hF q hq)) hL hl
theorem et_newl {atype : ArrayType} {x : Int32} {N : Nat} (hdg : decode Y.2.1 pc = .ok (.newarray atype, 2)) (hat : newarray.typeOf atype = .long) (hw : Cond.arrayClass .long ∈ et_W) (hx : ¬ x < 0) (hN : x.toNatClampNeg = N) (hb : N * 8 ≤ 536870912) (h1 : nc + 1 ≤ mc) (h2 : ns + N ≤ ms)
    (kk : et_M sc Y d mc ms Post (pc + 2) lv (.ref n :: st) (va_up h n (.inl (1, N, .inr (.inl (fun _ => 0))))) (n + 1) (nc + 1) (ns + N)) : et_M sc Y d mc ms Post pc lv (.int x :: st) h n nc ns := by
  intro p l e R s m args below meth c B D dA ls H locs C hP hF hL hl
  refine va_newaK (rest := st.map (et_em B)) C.1 C.2.1 (by rw [hat]; exact C.hts _ hw) rfl hdg rfl hx hN (by rw [hat]; exact hb) (by rw [C.rm]; exact h1) (by rw [C.rm]; exact h2) hP.1 fun H1 cA e1 z1 o1 hA hNm => ?_
  rw [hat] at e1 hNm
  have hcA : cA = dA 1 := Option.some.inj (hNm.symm.trans (C.kk.2 1 _ rfl).2)
  subst hcA
  exact kk p l e R s m args below meth c B D dA ls H1 locs C (hP.push (Or.inr e1) (by rw [z1, hP.1]) (fun q hq => o1 q (by rw [← hP.1]; exact hq))) (fun q hq => (o1 q (by omega)).trans (hF q hq)) hL hl
theorem et_newz {atype : ArrayType} {x : Int32} {N : Nat} (hdg : decode Y.2.1 pc = .ok (.newarray atype, 2)) (hat : newarray.typeOf atype = .boolean) (hw : Cond.arrayClass .boolean ∈ et_W) (hx : ¬ x < 0) (hN : x.toNatClampNeg = N) (hb : N * 1 ≤ 536870912) (h1 : nc + 1 ≤ mc) (h2 : ns + N ≤ ms)
    (kk : et_M sc Y d mc ms Post (pc + 2) lv (.ref n :: st) (va_up h n (.inl (2, N, .inl (fun _ => 0)))) (n + 1) (nc + 1) (ns + N)) : et_M sc Y d mc ms Post pc lv (.int x :: st) h n nc ns := by
  intro p l e R s m args below meth c B D dA ls H locs C hP hF hL hl
  refine va_newaK (rest := st.map (et_em B)) C.1 C.2.1 (by rw [hat]; exact C.hts _ hw) rfl hdg rfl hx hN (by rw [hat]; exact hb) (by rw [C.rm]; exact h1) (by rw [C.rm]; exact h2) hP.1 fun H1 cA e1 z1 o1 hA hNm => ?_
  rw [hat] at e1 hNm
  have hcA : cA = dA 2 := Option.some.inj (hNm.symm.trans (C.kk.2 2 _ rfl).2)
  subst hcA
  exact kk p l e R s m args below meth c B D dA ls H1 locs C (hP.push (Or.inr e1) (by rw [z1, hP.1]) (fun q hq => o1 q (by rw [← hP.1]; exact hq))) (fun q hq => (o1 q (by omega)).trans (hF q hq)) hL hl
/-! calls -/
/-- what a call behind its run goes on with, where the caller has no handler -/
theorem et_cont {Pc : et_R → (Nat → et_MC) → Nat → Prop} {mcc msc : Nat} {p : Program} {l : Launch} {e : Env} {R : Room} {s : State} {m : MethodId} {args : Array Value} {below : List Frame} {meth : Method} {c : Code} {B : Nat} {D : va_G} {dA : Nat → ClassId} {ls : Array Slot} {H : Heap} {locs : List Loc} {stk : List Value} {aa : Array Value}
    (C : et_C sc Y d mc ms B D dA p l R s m args meth c) (hF : ∀ q : Nat, q < B → H[q]? = s.heap[q]?) (hL : ∀ q ∈ locs, B ≤ q.base) (hl : lv_has ls Y.2.2.1 (et_ll B 0 lv))
    (hr : et_Run p l e R s m args below meth c H locs nc ns mcc msc (F0 m pc ls stk) (st.map (et_em B)) (et_Qc B D dA Pc aa) (fun q => B ≤ q)) (h1 : nc + mcc ≤ mc) (h2 : ns + msc ≤ ms)
    (kR : ∀ (v : Option Value) (h' : Nat → et_MC) (n' : Nat), Pc (.inl v) h' n' → et_M sc Y d mc ms Post (pc + 3) lv (v.toList ++ st) h' n' (nc + mcc) (ns + msc))
    (kT : ∀ (x : Nat) (h' : Nat → et_MC) (n' : Nat), Pc (.inr x) h' n' → Y.2.2.2.2 = [] ∧ Post (.inr x) h' n') :
    W p l e R s m args below meth c H locs nc ns (et_Q below (et_Qc B D dA Post) args s mc ms (fun q => B ≤ q)) (F0 m pc ls stk) := by
  intro T hT X
  obtain ⟨o, st₀, t, T', L, h0, X', hL', e1, e2, ⟨⟨r, h', n', hp, hP', hO⟩, hF'⟩, hd⟩ := hr T hT X
  have hFT : ∀ q : Nat, q < B → T'.heap[q]? = s.heap[q]? := fun q hq => by rw [e1, hF' q hq, h0]; exact hF q hq
  have hLL : ∀ q ∈ locs ++ L, B ≤ q.base := fun q hq => by
    rcases List.mem_append.mp hq with h | h
    · exact hL q h
    · exact hL' q h
  cases r with
  | inl v =>
    have hO' : o = .returned (v.map (et_em B)) := hO
    subst hO'
    rcases hd with ⟨v', hv', hst⟩ | ⟨x, hx, -⟩
    · cases hv'
      obtain ⟨t2, a1, b1⟩ := kR v h' n' hp p l e R s m args below meth c B D dA ls T'.heap (locs ++ L) C (by rw [e1]; exact hP') hFT hLL hl T' rfl X'
      refine ⟨t2, hst t2 ?_, b1⟩
      have e9 : (v.toList ++ st).map (et_em B) = (v.map (et_em B)).toList ++ st.map (et_em B) := by cases v <;> rfl
      rw [e9] at a1
      exact a1
    · cases hx
  | inr x =>
    obtain ⟨a, ce, hO1, hO2, hO3, hO4⟩ := hO
    subst hO1
    obtain ⟨hh0, hpost⟩ := kT x h' n' hp
    rcases hd with ⟨v', hv', -⟩ | ⟨x', hx, hst⟩
    · cases hv'
    · cases hx
      have hnil : c.exceptionTable.toList = [] := by
        have := C.tab
        rw [hh0] at this
        simpa using this
      obtain ⟨w1, w2, w3, w4, w5⟩ := (stand_widen X' h1 h2).leaveThrown (B + a) (g := { F0 m pc ls stk with stack := st.map (et_em B) }) rfl rfl rfl (fun x hx => by rw [hnil] at hx; cases hx) (hlocks := C.locks)
      refine ⟨_, hst _ w1, .threw (B + a), w2, w3, ⟨⟨.inr x, h', n', hpost, ?_, a, ce, rfl, ?_, ?_, hO4⟩, fun q hq => ?_⟩, w4, locs ++ L, w5, hLL⟩
      · show et_HP D dA B h' n' T'.heap
        rw [e1]; exact hP'
      · show T'.heap[B + a]? = some ce
        rw [e1]; exact hO2
      · show T'.vm.findClass _ = _
        rw [e2]; exact hO3
      · exact hFT q hq
theorem et_cb {Yc : et_Y} {dc mcc msc : Nat} {Pc : et_R → (Nat → et_MC) → Nat → Prop} {av : List Value} {p : Program} {l : Launch} {R : Room} {s : State} {m : MethodId} {args : Array Value} {meth : Method} {c : Code} {B : Nat} {D : va_G} {dA : Nat → ClassId} {H : Heap}
    (C : et_C sc Y d mc ms B D dA p l R s m args meth c) (hP : et_HP D dA B h n H) (hF : ∀ q : Nat, q < B → H[q]? = s.heap[q]?) (hcn : et_Cn sc Yc dc av h n mcc msc Pc) (hd : dc + 1 ≤ d) (hnl : Yc.2.2.1 ≤ 60) (hw : et_cw Yc.1 Yc.2.1 Yc.2.2.1 Yc.2.2.2.1 Yc.2.2.2.2 ∈ et_W) (hini : Cond.initialized Yc.1.cls ∈ et_W) :
    et_CB l R s args H Yc.1 Yc.2.1 Yc.2.2.1 Yc.2.2.2.1 Yc.2.2.2.2 et_W (et_rm dc mcc msc) (va_Pc (av.map (et_em B)) (fun U => et_HP D dA B h n U.heap ∧ et_Wd sc B D dA U)) (et_Qc B D dA Pc) mcc msc (fun q => B ≤ q) (av.map (et_em B)).toArray := by
  refine ⟨hcn l B D dA C.la, rfl, rfl, ?_, ?_, fun w hw a' U hW => word_at hW (et_good w hw) (C.hts w hw), C.hts _ hw, C.hts _ hini, fun U g mk hU hW => ⟨rfl, ?_, ?_⟩⟩
  · rw [C.rm]
    show 8 + dc + 1 ≤ 8 + d
    omega
  · rw [C.rm]
    show 8 + (Yc.2.2.1 + 11) + (120 + 90 * dc) ≤ 120 + 90 * d
    omega
  · show et_HP D dA B h n U.heap
    rw [hU]; exact hP
  · exact et_Wd.moved (u := s) (U := U.calling g mk _) hW (fun q hq => by show U.heap[q]? = _; rw [hU]; exact hF q hq) C.wd
/-- the facts of a method that is called on an object -/
def et_MV (Yc : et_Y) : Prop := et_cw Yc.1 Yc.2.1 Yc.2.2.1 Yc.2.2.2.1 Yc.2.2.2.2 ∈ et_W ∧ Cond.initialized Yc.1.cls ∈ et_W ∧ Cond.instanceMethod Yc.1 ∈ et_W ∧ Cond.selects Yc.1.cls Yc.1 Yc.1 ∈ et_W ∧ Yc.1.cls ≠ "java/lang/invoke/MethodHandle" ∧ Yc.1.cls ≠ "java/lang/invoke/VarHandle" ∧ Yc.2.2.1 ≤ 60
def et_MS (Yc : et_Y) : Prop := et_cw Yc.1 Yc.2.1 Yc.2.2.1 Yc.2.2.2.1 Yc.2.2.2.2 ∈ et_W ∧ Cond.initialized Yc.1.cls ∈ et_W ∧ Cond.static Yc.1 ∈ et_W ∧ Yc.1.cls ≠ "java/lang/invoke/MethodHandle" ∧ Yc.1.cls ≠ "java/lang/invoke/VarHandle" ∧ Yc.2.2.1 ≤ 60
def et_MI (Yc : et_Y) : Prop := et_cw Yc.1 Yc.2.1 Yc.2.2.1 Yc.2.2.2.1 Yc.2.2.2.2 ∈ et_W ∧ Cond.initialized Yc.1.cls ∈ et_W ∧ Cond.instanceMethod Yc.1 ∈ et_W ∧ Yc.1.cls ≠ "java/lang/invoke/MethodHandle" ∧ Yc.1.cls ≠ "java/lang/invoke/VarHandle" ∧ Yc.2.2.1 ≤ 60 ∧ Yc.1.name = "<init>" ∧ Yc.2.2.2.1 = none ∧ Yc.2.2.2.2 = []
def et_lk (own : String) (index : Nat) (y : MethodName) : Prop := Cond.methodLink own index y ∈ et_W ∨ ∃ host, Cond.methodLinkNest own index y host ∈ et_NST
theorem et_lk.use {own : String} {index : Nat} {y : MethodName} (hk : et_lk own index y) {B : Nat} {D : va_G} {dA : Nat → ClassId} {p : Program} {l : Launch} {R : Room} {s : State} {m : MethodId} {args : Array Value} {meth : Method} {c : Code} (C : et_C sc Y d mc ms B D dA p l R s m args meth c) :
    ∃ host, (Cond.methodLink own index y).before args s = true ∨ (Cond.methodLinkNest own index y host).before args s = true := by
  rcases hk with hk | ⟨host, hk⟩
  · exact ⟨"", Or.inl (C.hts _ hk)⟩
  · exact ⟨host, Or.inr (va_Nw.use rfl (C.wd.2.1 _ hk))⟩
theorem et_invV {Yc : et_Y} (mf : et_MV Yc) {dc mcc msc : Nat} {Pc : et_R → (Nat → et_MC) → Nat → Prop} {index k ci : Nat} {As stk fs : List Value} {T : u_T} {N : Nat} (hst : stk = As.reverse ++ .ref k :: st) (hdg : decode Y.2.1 pc = .ok (.invokevirtual index, 3)) (hlk : et_lk Y.1.cls index Yc.1) (hlen : (parseMethodDescriptor Yc.1.desc).map (fun d => d.parameters.length) = some As.length) (hh : h k = .inr (ci, fs)) (hc : et_cl[ci]? = some (Yc.1.cls, T, N)) (hsum : (st.map fun v => v.category).sum ≤ 8)
    (hcn : et_Cn sc Yc dc (.ref k :: As) h n mcc msc Pc) (hd : dc + 1 ≤ d) (h1 : nc + mcc ≤ mc) (h2 : ns + msc ≤ ms)
    (kR : ∀ (v : Option Value) (h' : Nat → et_MC) (n' : Nat), Pc (.inl v) h' n' → et_M sc Y d mc ms Post (pc + 3) lv (v.toList ++ st) h' n' (nc + mcc) (ns + msc))
    (kT : ∀ (x : Nat) (h' : Nat → et_MC) (n' : Nat), Pc (.inr x) h' n' → Y.2.2.2.2 = [] ∧ Post (.inr x) h' n') : et_M sc Y d mc ms Post pc lv stk h n nc ns := by
  intro p l e R s m args below meth c B D dA ls H locs C hP hF hL hl
  subst hst
  obtain ⟨m1, m2, m3, m4, m5, m6, m7⟩ := mf
  obtain ⟨-, cell, q1, q2, q3, -⟩ := hP.obj hh hc
  obtain ⟨host, hlink⟩ := hlk.use C
  have hrun := et_runV (p := p) (e := e) (m := m) (below := below) (meth := meth) (c := c) (locs := locs) (cells := nc) (slots := ns) (host := host) (C := Yc.1.cls) (index := index) (b := B + k) (As := As.map (et_em B)) (rest := st.map (et_em B)) (g := F0 m pc ls ((As.reverse ++ .ref k :: st).map (et_em B))) C.1 C.2.1 C.own (et_cb C hP hF hcn hd m7 m1 m2) hlink (C.hts _ m3) (C.hts _ m4) ⟨m5, m6⟩
    ⟨cell, q1, by rw [q3]; rfl, by rw [q2]; exact (C.kk.1 ci _ hc).2.1⟩ rfl (by rw [List.length_map]; exact hlen) (hl.1.trans C.2.2.1.symm) (by show (As.reverse ++ .ref k :: st).map (et_em B) = _; rw [List.map_append, List.map_reverse]; rfl) (by rw [et_sumc]; show 2 * 0 + _ ≤ 8; omega) hdg (by rw [C.rm]; exact ⟨h1, h2⟩)
  exact et_cont C hF hL hl hrun h1 h2 kR kT
theorem et_invS {Yc : et_Y} (mf : et_MS Yc) {dc mcc msc : Nat} {Pc : et_R → (Nat → et_MC) → Nat → Prop} {index : Nat} {As stk : List Value} (hst : stk = As.reverse ++ st) (hdg : decode Y.2.1 pc = .ok (.invokestatic index, 3)) (hlk : et_lk Y.1.cls index Yc.1) (hlen : (parseMethodDescriptor Yc.1.desc).map (fun d => d.parameters.length) = some As.length) (hsum : (st.map fun v => v.category).sum ≤ 8)
    (hcn : et_Cn sc Yc dc As h n mcc msc Pc) (hd : dc + 1 ≤ d) (h1 : nc + mcc ≤ mc) (h2 : ns + msc ≤ ms)
    (kR : ∀ (v : Option Value) (h' : Nat → et_MC) (n' : Nat), Pc (.inl v) h' n' → et_M sc Y d mc ms Post (pc + 3) lv (v.toList ++ st) h' n' (nc + mcc) (ns + msc))
    (kT : ∀ (x : Nat) (h' : Nat → et_MC) (n' : Nat), Pc (.inr x) h' n' → Y.2.2.2.2 = [] ∧ Post (.inr x) h' n') : et_M sc Y d mc ms Post pc lv stk h n nc ns := by
  intro p l e R s m args below meth c B D dA ls H locs C hP hF hL hl
  subst hst
  obtain ⟨m1, m2, m3, m5, m6, m7⟩ := mf
  obtain ⟨host, hlink⟩ := hlk.use C
  have hcode := C.hts _ m1
  have hnm : ∃ mk, s.methodNamed? Yc.1 = some mk := by
    cases h9 : s.methodNamed? Yc.1 with
    | some mk => exact ⟨mk, rfl⟩
    | none =>
      exfalso
      have h8 := C.hts _ m3
      simp [Cond.before, Cond.holds, Cond.value, h9] at h8
  have hrun := et_runS (p := p) (e := e) (m := m) (below := below) (meth := meth) (c := c) (locs := locs) (cells := nc) (slots := ns) (host := host) (index := index) (As := As.map (et_em B)) (rest := st.map (et_em B)) (g := F0 m pc ls ((As.reverse ++ st).map (et_em B))) C.1 C.2.1 C.own (et_cb C hP hF hcn hd m7 m1 m2) hlink (C.hts _ m3) ⟨m5, m6⟩ hnm
    rfl (by rw [List.length_map]; exact hlen) (hl.1.trans C.2.2.1.symm) (by show (As.reverse ++ st).map (et_em B) = _; rw [List.map_append, List.map_reverse]) (by rw [et_sumc]; show 2 * 0 + _ ≤ 8; omega) hdg (by rw [C.rm]; exact ⟨h1, h2⟩)
  exact et_cont C hF hL hl hrun h1 h2 kR kT
theorem et_invI {Yc : et_Y} (mf : et_MI Yc) {dc mcc msc : Nat} {Pc : et_R → (Nat → et_MC) → Nat → Prop} {index k : Nat} {As stk : List Value} (hst : stk = As.reverse ++ .ref k :: st) (hdg : decode Y.2.1 pc = .ok (.invokespecial index, 3)) (hlk : et_lk Y.1.cls index Yc.1) (hlen : (parseMethodDescriptor Yc.1.desc).map (fun d => d.parameters.length) = some As.length) (hsum : (st.map fun v => v.category).sum ≤ 8)
    (hcn : et_Cn sc Yc dc (.ref k :: As) h n mcc msc Pc) (hd : dc + 1 ≤ d) (h1 : nc + mcc ≤ mc) (h2 : ns + msc ≤ ms)
    (kR : ∀ (v : Option Value) (h' : Nat → et_MC) (n' : Nat), Pc (.inl v) h' n' → et_M sc Y d mc ms Post (pc + 3) lv (v.toList ++ st) h' n' (nc + mcc) (ns + msc))
    (kT : ∀ (x : Nat) (h' : Nat → et_MC) (n' : Nat), Pc (.inr x) h' n' → Y.2.2.2.2 = [] ∧ Post (.inr x) h' n') : et_M sc Y d mc ms Post pc lv stk h n nc ns := by
  intro p l e R s m args below meth c B D dA ls H locs C hP hF hL hl
  subst hst
  obtain ⟨m1, m2, m3, m5, m6, m7, m8, m9, m10⟩ := mf
  obtain ⟨host, hlink⟩ := hlk.use C
  have hcb := et_cb C hP hF hcn hd m7 m1 m2
  rw [m9, m10] at hcb
  have hrun := et_runI (p := p) (e := e) (m := m) (below := below) (meth := meth) (c := c) (locs := locs) (cells := nc) (slots := ns) (host := host) (index := index) (b := B + k) (As := As.map (et_em B)) (rest := st.map (et_em B)) (g := F0 m pc ls ((As.reverse ++ .ref k :: st).map (et_em B))) C.1 C.2.1 C.own hcb hlink (C.hts _ m3) m8 ⟨m5, m6⟩
    rfl (by rw [List.length_map]; exact hlen) (hl.1.trans C.2.2.1.symm) (by show (As.reverse ++ .ref k :: st).map (et_em B) = _; rw [List.map_append, List.map_reverse]; rfl) (by rw [et_sumc]; show 2 * 0 + _ ≤ 8; omega) hdg (by rw [C.rm]; exact ⟨h1, h2⟩)
  exact et_cont C hF hL hl hrun h1 h2 kR kT
end ETR2
end
section
section ETT
variable {p : Program} {l : Launch} {e : Env} {R : Room} {s : State} {m : MethodId} {args : Array Value} {below : List Frame} {meth : Method} {c : Code} {T : State} {locs : List Loc} {cells slots : Nat}
set_option maxHeartbeats 2000000 in
/-- new X("..") is thrown: the new cell alone has changed -/
theorem et_ctor (X : Stand p l e R s m args below meth c T locs cells slots) (hexec : p.tables.exec = Jvm.exec) (htr : e.platform.stackTraces = false) {own cls : String} {names : List String} {ic : Nat}
    (hown : s.vm.findClass own = some m.cls) (hcls : Bundle.fit cls = true) (hnames : ∀ q ∈ names, Bundle.fit q = true) (hA : ∀ w ∈ Bundle.ownAtoms own ic cls names, w.before args s = true)
    {B : Nat} (hF : ∀ q : Nat, q < B → T.heap[q]? = s.heap[q]?) (hst : et_stF B s "UNASSIGNED_STACK" "[Ljava/lang/StackTraceElement;")
    {a : Addr} (ha : B ≤ a) {cX : ClassId} {kX : Class} (hf : s.vm.findClass cls = some cX) (hk : s.vm.classes[cX]? = some kX) (hcell : T.heap[a]? = some (freshCell cX kX)) {msg : Value} (hmsg : msg.isRef = true)
    {g : JFrame} (hg : g.method = m) (hsize : g.locals.size = c.maxLocals) (hlocked : g.locked = none) (hentered : g.entered = []) {rest : List Value} (hstack : g.stack = msg :: .ref a :: .ref a :: rest)
    (hd1 : decode c.code g.pc = .ok (.invokespecial ic, 3)) (hd2 : decode c.code (g.pc + 3) = .ok (.athrow, 1)) (hout : ∀ x ∈ c.exceptionTable.toList, covers x (g.pc + 3) = false)
    (hRf : names.length + 3 < R.frames) (hRl : 2 * g.monitorRoom + ((Value.ref a :: rest).map fun v => v.category).sum + (13 * (names.length + 1) + 42) ≤ R.locals) (hlocks : meth.locks = false) :
    ∃ (T' : State) (ce : Cell) (L : List Loc), (∀ q ∈ L, q.base = a) ∧ T'.heap.size = T.heap.size ∧ (∀ q : Nat, q ≠ a → T'.heap[q]? = T.heap[q]?) ∧ T'.heap[a]? = some ce ∧ ce.cls = cX ∧ ce.vm.isStatics = false ∧
      Steps p.tables e below (T.setTop g) (T'.setFrames (.throwing a :: below)) ∧ (T'.setFrames (.throwing a :: below)).status = .running ∧ Ended (T'.setFrames (.throwing a :: below)) below (.threw a) ∧ s.WarmedH (T'.setFrames (.throwing a :: below)).vm ∧
      s.sameButNew ({ T'.setFrames (.throwing a :: below) with vm := s.vm } : State) (locs ++ L) cells slots := by
  have hpl : e.platform.magicAccessors = ({} : Platform).magicAccessors := by rw [X.admits.platform]
  have w : ∀ x, x ∈ Bundle.ownAtoms own ic cls names → x.holds args s none s [] = true := fun x hx => hA x hx
  obtain ⟨TC, Z0, L, -, Ty⟩ := ThrowableC.of_atoms (args := args) (s := s) (pl := e.platform) (by rw [X.admits.platform]) (by rw [X.admits.platform]) hpl (fun x hx => hA x (by simp [Bundle.ownAtoms, hx]))
  obtain ⟨Z, M, LZ, LM, hnZ⟩ := Init0T.ofS_atoms (args := args) hpl L Ty (fun x hx => hA x (by simp [Bundle.ownAtoms, hx]))
  obtain ⟨P1, Ps, hlen, L1, hL, hP1m, hlink1, hlink⟩ := Bundle.chainS (args := args) hpl hnZ names cls hcls hnames (fun x hx => hA x (by simp [Bundle.ownAtoms, hx]))
  have hP1 : P1.m.cls = cX := Option.some.inj ((findClass_of_methodNamed hP1m).symm.trans hf)
  subst hP1
  obtain ⟨c1, kX', hc1, hk', hord, -, -, hn6⟩ := Cond.instantiable_spec (w (.instantiable cls 6) (by simp [Bundle.ownAtoms]))
  cases Option.some.inj (hc1.symm.trans hf)
  cases Option.some.inj (hk.symm.trans hk')
  have sel : ∀ y, y = Bundle.tFill0 ∨ y = Bundle.tFill → ∀ mk, s.methodNamed? y = some mk → selectMethod e.platform s.vm P1.m.cls mk = .method mk := by
    intro y hy mk hmk
    have hy2 : (Cond.selects cls y y).holds args s none s [] = true := by
      rcases hy with rfl | rfl <;> exact w _ (by simp [Bundle.ownAtoms])
    have hy3 : y.cls ≠ "java/lang/invoke/MethodHandle" ∧ y.cls ≠ "java/lang/invoke/VarHandle" := by
      rcases hy with rfl | rfl <;> decide
    obtain ⟨c2, r2, m2, q1, q2, q3, q4, -⟩ := Cond.selects_spec hy2
    cases Option.some.inj (q1.symm.trans hf)
    cases Option.some.inj (q2.symm.trans (State.methodFound?_of_named hmk hy3))
    cases Option.some.inj (q3.symm.trans hmk)
    rw [Launch.admits_selectMethod X.admits]; exact q4
  have hsel0 := sel _ (Or.inl rfl) _ Ty.fill0
  have hselF := sel _ (Or.inr rfl) _ Ty.fill
  obtain ⟨cS, hcS, hiss⟩ := Ty.statics
  obtain ⟨u0, hu0⟩ := Cond.staticRefV Ty.unassigned L.unassignedStatic L.statics hcS hiss (w (.isRef (.static Bundle.tN "UNASSIGNED_STACK" Bundle.steD)) (by simp [Bundle.ownAtoms]))
  obtain ⟨sen, hsen⟩ := Cond.staticRefV Ty.sentinel L.sentinelStatic L.statics hcS hiss (w (.isRef (.static Bundle.tN "SUPPRESSED_SENTINEL" Bundle.listD)) (by simp [Bundle.ownAtoms]))
  have haS : TC.aS < B := by
    obtain ⟨c9, k9, i9, f9, a9, cell9, v9, h1, h2, h3, h4, h5, -⟩ := hst
    have e9 := Option.some.inj (h2.symm.trans Ty.unassigned)
    simp only [Prod.mk.injEq] at e9
    obtain ⟨-, rfl, -, -⟩ := e9
    have := h4.symm.trans L.statics
    cases this
    exact h5
  have hcS' : T.heap[TC.aS]? = some cS := by rw [hF _ haS]; exact hcS
  have hne : TC.aS ≠ a := Nat.ne_of_lt (Nat.lt_of_lt_of_le haS ha)
  have hunk : cS.vm ≠ .unknown := fun h => by rw [h] at hiss; cases hiss
  obtain ⟨ci198, i198, fB, hk198, hg198, ha198, hsB, -, hnB, htB, hffB⟩ := Cond.ownField (t := .object "java/lang/Object") Ty.found L.cls (by decide +kernel) (w (.fieldLink Bundle.tN 198 Bundle.tN "backtrace" "Ljava/lang/Object;") (by simp [Bundle.ownAtoms])) (w (.lays Bundle.tN Bundle.tN "backtrace" "Ljava/lang/Object;") (by simp [Bundle.ownAtoms])) e.platform hpl
  obtain ⟨iM, hffM⟩ := Ty.msg
  obtain ⟨tyC, dC, hdC, hdnC⟩ := Cond.laysAt hf hk Ty.cause (w (.lays cls Bundle.tN "cause" "Ljava/lang/Throwable;") (by simp [Bundle.ownAtoms]))
  obtain ⟨tyS, dS, hdS, hdnS⟩ := Cond.laysAt hf hk Ty.stack (w (.lays cls Bundle.tN "stackTrace" Bundle.steD) (by simp [Bundle.ownAtoms]))
  obtain ⟨tyP, dP, hdP, hdnP⟩ := Cond.laysAt hf hk Ty.supp (w (.lays cls Bundle.tN "suppressedExceptions" Bundle.listD) (by simp [Bundle.ownAtoms]))
  obtain ⟨tyM, dM, hdM, hdnM⟩ := Cond.laysAt hf hk hffM (w (.lays cls Bundle.tN "detailMessage" "Ljava/lang/String;") (by simp [Bundle.ownAtoms]))
  obtain ⟨tyB, dB, hdB, hdnB⟩ := Cond.laysAt hf hk hffB (w (.lays cls Bundle.tN "backtrace" "Ljava/lang/Object;") (by simp [Bundle.ownAtoms]))
  have bC := Cond.laysApart hdB hdC hdnB hdnC (by rw [hnB, Ty.causeName]; decide)
  have bS := Cond.laysApart hdB hdS hdnB hdnS (by rw [hnB, Ty.stackName]; decide)
  have bP := Cond.laysApart hdB hdP hdnB hdnP (by rw [hnB, Ty.suppName]; decide)
  have hskip : SkipFacts TC e.platform s (fun u => u) u0 ((preparedCellV TC.toThrowableT (freshCell P1.m.cls kX) a u0 sen).withEntry T.cur) := by
    refine ⟨{ ci198 := ci198, i198 := i198, fBack := fB }, ⟨hk198, hg198, ha198, hsB⟩, ?_, fun _ _ => rfl⟩
    have h9 := fresh_default (c := P1.m.cls) tyB
    rw [htB] at h9
    simpa [preparedCellV, Cell.setSlot, Cell.withEntry, Array.getElem?_setIfInBounds, bC, bS, bP, bC.symm, bS.symm, bP.symm, defaultValue] using h9
  obtain ⟨tm, methC, cdC, kC, vm₁, hnC, -, -, -, -, -, -, -, hW₁, st1⟩ := Steps.initColdS (tb := p.tables) (e := e) (below := below) (s := s) (U := T) X.here hexec X.warmed hpl hown (t := Bundle.initS cls) rfl rfl (Bundle.fit_spec hcls).2
    (w (.methodLink own ic (Bundle.initS cls)) (by simp [Bundle.ownAtoms])) (hA (.instanceMethod (Bundle.initS cls)) (by cases names <;> simp [Bundle.ownAtoms, Bundle.chainSAtoms, Bundle.passSAtoms])) (bytes := Bundle.six) (maxL := 2) (hA (.code (Bundle.initS cls) Bundle.six 2 none) (by cases names <;> simp [Bundle.ownAtoms, Bundle.chainSAtoms, Bundle.passSAtoms]))
    (f := g) hg (a := a) (msg := msg) (rest := .ref a :: rest) hstack hd1
  cases Option.some.inj (hnC.symm.trans hP1m)
  obtain ⟨vm₂, X₂, st2⟩ := (X.noted hW₁).ctorMessageOffV hexec (g := { g with stack := .ref a :: rest }) hg hsize TC L Z LZ M LM (P1 :: Ps)
    (fun P hP => by rcases List.mem_cons.mp hP with rfl | hP; exact L1; exact hL P hP) ⟨hlink1, hlink⟩ (u0 := u0) (sen := sen) (self := a) hmsg (cell := freshCell P1.m.cls kX) (cellS := cS)
    hcell (fun _ => by simp) (by simp) rfl rfl hsel0 hselF hcS' hne hunk hu0 hsen
    (Takes.of_laid hk hord tyC (by rw [Ty.causeType]; rfl)) (Takes.of_laid hk hord tyS (by rw [Ty.stackType]; exact fits_refV_array _ u0)) (Takes.of_laid hk hord tyP (by rw [Ty.suppType]; exact fits_refV_object _ sen))
    (Takes.of_laid hk hord tyM (by rw [Ty.msgType]; exact fits_refV_object _ ⟨msg, hmsg⟩)) Ty.objLocals hskip htr [] hd1
    (by simp only [List.length_cons, hlen]; omega) (by simp only [List.length_cons, hlen]; exact hRl)
  obtain ⟨hwalk, hrun, hended, hWU, hsame⟩ := X₂.athrowLeaves hexec (g := { g with stack := .ref a :: rest, pc := g.pc + 3 }) hg hlocked hentered hout (a := a) (rest := rest) rfl hd2 (hlocks := hlocks)
  have hlt : a < ((T.setVm vm₁).setVm vm₂).heap.size := (Array.getElem?_eq_some_iff.mp hcell).1
  refine ⟨_, _, _, ?_, ?_, ?_, heapAt_setCell_self _ hlt, rfl, rfl, st1 _ (fun acts => ?_), hrun, hended, hWU, hsame⟩
  · intro q hq
    simp only [List.mem_cons, List.not_mem_nil, or_false] at hq
    rcases hq with rfl | rfl | rfl | rfl | rfl <;> rfl
  · rw [size_setCell]; rfl
  · intro q hq
    rw [heapAt_setCell_ne _ (Ne.symm hq)]; rfl
  · rw [doInvoke_state]
    exact st2 _ hwalk
end ETT
section ETT2
variable {sc : et_X} {Y : et_Y} {d mc ms : Nat} {Post : et_R → (Nat → et_MC) → Nat → Prop} {pc : Nat} {lv : List (Option Value)} {st : List Value} {h : Nat → et_MC} {n nc ns : Nat}
theorem et_nst {B : Nat} {D : va_G} {dA : Nat → ClassId} {s : State} {args : Array Value} (h : et_Wd sc B D dA s) {w : Cond} (hw : w ∈ et_NST) : w.before args s = true := by
  have h7 := h.2.1 w hw
  have h8 := et_NST_ok w hw
  cases w <;> first | exact va_Nw.use rfl h7 | exact absurd h8 (by simp [et_isN])
/-- the words of the tables that a throw needs; the two of the heap beside them -/
def et_thr (own : String) (ic : Nat) (X : String) : Prop := ∀ w ∈ Bundle.ownAtoms own ic X ["java/lang/RuntimeException", "java/lang/Exception"], w ∈ et_W ∨ w ∈ et_SW ∨ w ∈ et_NST
theorem et_SW_of {B : Nat} {s : State} {args : Array Value} (h1 : et_stF B s "UNASSIGNED_STACK" "[Ljava/lang/StackTraceElement;") (h2 : et_stF B s "SUPPRESSED_SENTINEL" "Ljava/util/List;") : ∀ w ∈ et_SW, w.before args s = true := by
  have key : ∀ nm d, et_stF B s nm d → (Cond.laysStatic "java/lang/Throwable" nm d).before args s = true ∧ (Cond.isRef (.static "java/lang/Throwable" nm d)).before args s = true := by
    intro nm d hq
    obtain ⟨c, k, i, f, a, cell, v, h1, h2, h3, h4, h5, h6, h7, h8, h9, h10, h11, h12⟩ := hq
    constructor
    · simp [Cond.before, Cond.holds, Cond.value, h1, h2, h3, h4, h6, h7, h8, h9, h10]
    · cases v <;> first | (cases h12; done) | simp [Cond.before, Cond.holds, Cond.value, Term.eval, State.fieldNamed?, h2, h3, h4, h6, h7, h11]
  intro w hw
  simp only [et_SW, List.mem_cons, List.not_mem_nil, or_false] at hw
  rcases hw with rfl | rfl | rfl | rfl
  · exact (key _ _ h1).1
  · exact (key _ _ h1).2
  · exact (key _ _ h2).1
  · exact (key _ _ h2).2
set_option maxHeartbeats 2000000 in
theorem et_throw {ix kx ic x : Nat} (tx : String) (hd0 : decode Y.2.1 pc = .ok (.new ix, 3)) (hd1 : decode Y.2.1 (pc + 3) = .ok (.dup, 1)) (hd2 : decode Y.2.1 (pc + 3 + 1) = .ok (.ldc kx, 2)) (hd3 : decode Y.2.1 (pc + 3 + 1 + 2) = .ok (.invokespecial ic, 3)) (hd4 : decode Y.2.1 (pc + 3 + 1 + 2 + 3) = .ok (.athrow, 1))
    (hstr : (Y.1.cls, kx, tx) ∈ et_STR) (hlk : Cond.classLink Y.1.cls ix (et_exn x) ∈ et_W) (hini : Cond.initialized (et_exn x) ∈ et_W) (hins : Cond.instantiable (et_exn x) 6 ∈ et_W) (hthr : et_thr Y.1.cls ic (et_exn x)) (hfit : Bundle.fit (et_exn x) = true) (hhh : Y.2.2.2.2 = []) (hsum : (st.map fun v => v.category).sum ≤ 8) (h1 : nc + 1 ≤ mc) (h2 : ns + 6 ≤ ms)
    (hp : Post (.inr x) (va_up h n et_void) (n + 1)) : et_M sc Y d mc ms Post pc lv st h n nc ns := by
  intro p l e R s m args below meth c B D dA ls H locs C hP hF hL hl
  obtain ⟨cX, kX, hfX, hkX, -⟩ := Cond.instantiable_spec (C.hts _ hins)
  refine W.newcK C.1 C.2.1 C.own (C.hts _ hlk) (C.hts _ hins) (C.hts _ hini) rfl hd0 (by rw [C.rm]; exact h1) (by rw [C.rm]; exact h2) hfX hP.1 fun H1 kC hkC e1 z1 o1 => ?_
  cases hkX.symm.trans hkC
  refine lv_dup (va := .ref (B + n)) (rest := st.map (et_em B)) C.1 C.2.1 hd1 rfl ?_
  obtain ⟨q, hq⟩ := C.wd.2.2.2.1 _ hstr
  refine va_ldcS C.1 C.2.1 C.own hq hd2 ?_
  intro T hT X
  have hnil : c.exceptionTable.toList = [] := by
    have := C.tab
    rw [hhh] at this
    simpa using this
  have hFT : ∀ q : Nat, q < B → T.heap[q]? = s.heap[q]? := fun q hq => by rw [hT, o1 q (by omega)]; exact hF q hq
  obtain ⟨T', ce, L, g1, g2, g3, g4, g5, g6, g7, g8, g9, g10, g11⟩ := et_ctor X C.1 (C.la e X.admits) (own := Y.1.cls) (cls := et_exn x) (names := ["java/lang/RuntimeException", "java/lang/Exception"]) (ic := ic) C.own hfit (by decide)
    (fun w hw => (hthr w hw).elim (fun z => C.hts _ z) (fun z => z.elim (fun z => et_SW_of C.wd.2.2.1.1 C.wd.2.2.1.2 w z) (fun z => et_nst C.wd z))) (B := B) hFT C.wd.2.2.1.1 (a := B + n) (Nat.le_add_right B n) hfX hkX (by rw [hT]; exact e1) (msg := .ref q) rfl
    (g := F0 m (pc + 3 + 1 + 2) ls (.ref q :: .ref (B + n) :: .ref (B + n) :: st.map (et_em B))) rfl (hl.1.trans C.2.2.1.symm) rfl rfl (rest := st.map (et_em B)) rfl (by rw [C.2.1]; exact hd3) (by rw [C.2.1]; exact hd4) (fun x hx => by rw [hnil] at hx; cases hx)
    (by rw [C.rm]; show 2 + 3 < 8 + d; omega) (by rw [C.rm, List.map_cons, List.sum_cons, et_sumc]; show 2 * 0 + (1 + _) + (13 * (2 + 1) + 42) ≤ 120 + 90 * d; omega) C.locks
  have X9 := g11.mono h1 h2
  refine ⟨_, g7, .threw (B + n), g8, g9, ⟨⟨.inr x, va_up h n et_void, n + 1, hp, ?_, n, ce, rfl, g4, ?_, g6⟩, fun q hq => ?_⟩, g10, locs ++ L, X9, fun q hq => ?_⟩
  · show et_HP D dA B (va_up h n et_void) (n + 1) T'.heap
    refine hP.push (Or.inl rfl) (by rw [g2, hT, z1, hP.1]) (fun q hq => ?_)
    rw [hP.1] at hq
    rw [g3 q (by omega), hT]
    exact o1 q hq
  · have := g10.alike.findClass (et_exn x)
    show T'.vm.findClass _ = _
    rw [g5, ← hfX]
    exact this none
  · show T'.heap[q]? = _
    rw [g3 q (by omega)]
    exact hFT q hq
  · rcases List.mem_append.mp hq with h9 | h9
    · exact hL q h9
    · rw [g1 q h9]; exact Nat.le_add_right B n
end ETT2
end
section
section ETK
variable {sc : et_X} {Y : et_Y} {d mc ms : Nat} {Post : et_R → (Nat → et_MC) → Nat → Prop} {pc : Nat} {lv : List (Option Value)} {st : List Value} {h : Nat → et_MC} {n nc ns : Nat}
theorem et_nn {z : Int32} (hz : ¬ z < 0) : z.toInt = (z.toNatClampNeg : Int) := by
  have hz0 : (0 : Int) ≤ z.toInt := by
    have := Int32.not_lt.mp hz
    simpa using Int32.le_iff_toInt_le.mp this
  show z.toInt = ((z.toInt.toNat : Nat) : Int)
  omega
theorem et_copy {index k0 k1 n0 n1 : Nat} {f g : Nat → Int32} {sp dp z : Int32} (hdg : decode Y.2.1 pc = .ok (.invokestatic index, 3)) (w1 : Cond.methodLink Y.1.cls index arraycopyName ∈ et_W) (w2 : Cond.native arraycopyName ∈ et_W) (w3 : Cond.static arraycopyName ∈ et_W) (w4 : Cond.initialized "java/lang/System" ∈ et_W)
    (hh0 : h k0 = .inl (0, n0, .inl f)) (hh1 : h k1 = .inl (0, n1, .inl g)) (h1 : ¬ sp < 0) (h2 : ¬ dp < 0) (h3 : ¬ z < 0) (h4 : sp.toNatClampNeg + z.toNatClampNeg ≤ n0) (h5 : dp.toNatClampNeg + z.toNatClampNeg ≤ n1) (hsum : (st.map fun v => v.category).sum ≤ 8)
    (kk : et_M sc Y d mc ms Post (pc + 3) lv st (va_up h k1 (.inl (0, n1, .inl (va_cpy f g sp.toNatClampNeg dp.toNatClampNeg z.toNatClampNeg)))) n nc ns) : et_M sc Y d mc ms Post pc lv (.int z :: .int dp :: .ref k1 :: .int sp :: .ref k0 :: st) h n nc ns := by
  intro p l e R s m args below meth c B D dA ls H locs C hP hF hL hl T hT X
  obtain ⟨-, q0⟩ := hP.arr hh0
  obtain ⟨hk1, q1⟩ := hP.arr hh1
  have hc0 : T.heap[B + k0]? = some (vp_cell (dA 0) (n0, .inl f)) := by rw [hT]; exact q0
  have hc1 : T.heap[B + k1]? = some (vp_cell (dA 0) (n1, .inl g)) := by rw [hT]; exact q1
  obtain ⟨-, k9, hk9, cm9, hkk9⟩ := (C.kk.2 0 _ rfl).1 n0 (fun j => .int (f j))
  obtain ⟨vm', X', step⟩ := X.arraycopy C.1 C.own (C.hts _ w1) (C.hts _ w2) (C.hts _ w3) (C.hts _ w4) (srcPos := sp) (destPos := dp) (n := z) hc0 hc1
    (fun _ h => by cases h) (fun _ h => by cases h) (fun h => by cases h) (fun h => by cases h) hk9 hk9 hkk9 hkk9 rfl h1 h2 h3
    (by rw [et_nn h1, et_nn h3]; show ¬ _ > ((arrV (dA 0) n0 (fun j => .int (f j))).slots.size : Int); rw [arrV_size]; omega)
    (by rw [et_nn h2, et_nn h3]; show ¬ _ > ((arrV (dA 0) n1 (fun j => .int (g j))).slots.size : Int); rw [arrV_size]; omega)
    (fun vm₁ _ i hi => by
      have e9 : (vp_cell (dA 0) (n0, .inl f)).slots.getD (sp.toNatClampNeg + i) .null = .int (f (sp.toNatClampNeg + i)) := by
        show (arrV (dA 0) n0 (fun j => .int (f j))).slots.getD _ _ = _
        rw [Array.getD_eq_getD_getElem?, arrV_read _ _ (by omega)]
        rfl
      rw [e9]
      exact ⟨rfl, trivial⟩)
    (g := F0 m pc ls (.int z :: .int dp :: .ref (B + k1) :: .int sp :: .ref (B + k0) :: st.map (et_em B))) rfl (hl.1.trans C.2.2.1.symm) (rest := st.map (et_em B)) rfl (by rw [C.2.1]; exact hdg) (by rw [C.rm]; show 1 ≤ 8 + d; omega) (by rw [C.rm, et_sumc]; show 2 * 0 + _ + (7 + 11) ≤ 120 + 90 * d; omega)
  have ecp : copied (vp_cell (dA 0) (n0, .inl f)) (vp_cell (dA 0) (n1, .inl g)) sp dp z = vp_cell (dA 0) (n1, .inl (va_cpy f g sp.toNatClampNeg dp.toNatClampNeg z.toNatClampNeg)) := va_copied (fun z => .int z) (dA 0) (dA 0) f g h4
  rw [ecp] at X' step
  have hlt : B + k1 < H.size := (Array.getElem?_eq_some_iff.mp q1).1
  have oq : ∀ (x : Cell) (q : Nat), q ≠ B + k1 → (H.setIfInBounds (B + k1) x)[q]? = H[q]? := fun x q hq => by simp [Array.getElem?_setIfInBounds, Ne.symm hq]
  obtain ⟨t, a1, b1⟩ := kk p l e R s m args below meth c B D dA ls (H.setIfInBounds (B + k1) (vp_cell (dA 0) (n1, .inl (va_cpy f g sp.toNatClampNeg dp.toNatClampNeg z.toNatClampNeg)))) _ C
    (hP.put hk1 (show (H.setIfInBounds (B + k1) _)[B + k1]? = some _ by simp [Array.getElem?_setIfInBounds, hlt]; rfl) (by simp) (oq _)) (fun q hq => (oq _ q (et_ne hq)).trans (hF q hq)) (fun q hq => by
      rcases List.mem_append.mp hq with h9 | h9
      · exact hL q h9
      · obtain ⟨y, -, hy⟩ := List.mem_map.mp h9
        rw [← hy]
        exact Nat.le_add_right B k1) hl _ (by rw [← hT]; rfl) X'
  exact ⟨t, step t a1, b1⟩
/-- an array of objects, of rows -/
theorem et_ald3 {k N r : Nat} {f : Nat → Option Nat} {i : Int32} (hdg : decode Y.2.1 pc = .ok (.aaload, 1)) (hh : h k = .inl (3, N, .inr (.inr (.inr (.inr f))))) (hin : vp_in i N) (hr : f i.toNatClampNeg = some r) (kk : et_M sc Y d mc ms Post (pc + 1) lv (.ref r :: st) h n nc ns) : et_M sc Y d mc ms Post pc lv (.int i :: .ref k :: st) h n nc ns := by
  intro p l e R s m args below meth c B D dA ls H locs C hP hF hL hl
  have q1 : H[B + k]? = some (arrV (dA 3) N (fun j => va_rf ((f j).map (fun k => B + k)))) := (hP.arr hh).2
  have hlt : i.toNatClampNeg < N := Nat.not_le.mp fun q => hin (Or.inr q)
  exact W.aald (v := .ref (B + r)) (a := B + k) (rest := st.map (et_em B)) C.1 C.2.1 q1 ((C.kk.2 3 _ rfl).1 N (fun j => va_rf ((f j).map (fun k => B + k)))) rfl (fun q => by cases q) (by show ¬ (i < 0 ∨ (arrV _ _ _).slots.size ≤ _); rw [arrV_size]; exact hin) (by show (arrV _ _ (fun j => va_rf ((f j).map (fun k => B + k)))).slots[_]? = _; rw [arrV_read _ _ hlt, hr]; rfl) rfl rfl hdg (kk p l e R s m args below meth c B D dA ls H locs C hP hF hL hl)
theorem et_ald4 {k N r : Nat} {f : Nat → Option Nat} {i : Int32} (hdg : decode Y.2.1 pc = .ok (.aaload, 1)) (hh : h k = .inl (4, N, .inr (.inr (.inr (.inr f))))) (hin : vp_in i N) (hr : f i.toNatClampNeg = some r) (kk : et_M sc Y d mc ms Post (pc + 1) lv (.ref r :: st) h n nc ns) : et_M sc Y d mc ms Post pc lv (.int i :: .ref k :: st) h n nc ns := by
  intro p l e R s m args below meth c B D dA ls H locs C hP hF hL hl
  have q1 : H[B + k]? = some (arrV (dA 4) N (fun j => va_rf ((f j).map (fun k => B + k)))) := (hP.arr hh).2
  have hlt : i.toNatClampNeg < N := Nat.not_le.mp fun q => hin (Or.inr q)
  exact W.aald (v := .ref (B + r)) (a := B + k) (rest := st.map (et_em B)) C.1 C.2.1 q1 ((C.kk.2 4 _ rfl).1 N (fun j => va_rf ((f j).map (fun k => B + k)))) rfl (fun q => by cases q) (by show ¬ (i < 0 ∨ (arrV _ _ _).slots.size ≤ _); rw [arrV_size]; exact hin) (by show (arrV _ _ (fun j => va_rf ((f j).map (fun k => B + k)))).slots[_]? = _; rw [arrV_read _ _ hlt, hr]; rfl) rfl rfl hdg (kk p l e R s m args below meth c B D dA ls H locs C hP hF hL hl)
theorem et_ast3 {k N r ci : Nat} {f : Nat → Option Nat} {i : Int32} {fs : List Value} {Tc : u_T} {Nc : Nat} (hdg : decode Y.2.1 pc = .ok (.aastore, 1)) (hh : h k = .inl (3, N, .inr (.inr (.inr (.inr f))))) (hin : vp_in i N) (hr : h r = .inr (ci, fs)) (hc : et_cl[ci]? = some (et_Rn, Tc, Nc))
    (kk : et_M sc Y d mc ms Post (pc + 1) lv st (va_up h k (.inl (3, N, .inr (.inr (.inr (.inr (va_up f i.toNatClampNeg (some r)))))))) n nc ns) : et_M sc Y d mc ms Post pc lv (.ref r :: .int i :: .ref k :: st) h n nc ns := by
  intro p l e R s m args below meth c B D dA ls H locs C hP hF hL hl
  have hk := (hP.arr hh).1
  have q1 : H[B + k]? = some (arrV (dA 3) N (fun j => va_rf ((f j).map (fun k => B + k)))) := (hP.arr hh).2
  obtain ⟨-, cellV, g1, g2, g3, -⟩ := hP.obj hr hc
  have hlt : i.toNatClampNeg < N := Nat.not_le.mp fun q => hin (Or.inr q)
  have h0 : ¬ i < 0 := fun q => hin (Or.inl q)
  have hcls := (C.kk.1 ci _ hc).2
  obtain ⟨kA, comp, k1, k2, k3, -⟩ := (C.kk.2 3 _ rfl).2
  have hcomp : comp = D.1 ci := Option.some.inj (k3.symm.trans hcls.1)
  subst hcomp
  obtain ⟨kC, hkC, -⟩ := hcls.2
  refine W.aast (a := B + k) (v := B + r) (rest := st.map (et_em B)) C.1 C.2.1 q1 (fun q h => by cases h) (fun h => by cases h) k1 k2 rfl hkC ⟨h0, by show _ < (arrV _ _ _).slots.size; rw [arrV_size]; exact hlt⟩ g1 (fun q h => by rw [g3] at h; cases h) (by rw [g2]; exact hkC) (by rw [g2]; exact va_assign hcls) rfl rfl hdg fun H1 e1 e2 e3 => ?_
  refine kk p l e R s m args below meth c B D dA ls H1 _ C (hP.put hk ?_ e2 e3) (fun q hq => (e3 q (et_ne hq)).trans (hF q hq)) (fun q hq => ?_) hl
  · show H1[B + k]? = some (arrV (dA 3) N (fun j => va_rf ((va_up f i.toNatClampNeg (some r) j).map (fun k => B + k))))
    rw [e1]
    show some ((arrV (dA 3) N (fun j => va_rf ((f j).map (fun k => B + k)))).setSlot _ _) = _
    rw [arrV_store]
    congr 2
    funext q
    by_cases hq : q = i.toNatClampNeg
    · subst hq; simp [updV, va_up, va_rf]
    · simp [updV, va_up, hq]
  · rcases List.mem_append.mp hq with h1 | h1
    · exact hL q h1
    · rw [List.mem_singleton.mp h1]; exact Nat.le_add_right B k
theorem et_anew {index : Nat} {x : Int32} {N : Nat} (hdg : decode Y.2.1 pc = .ok (.anewarray index, 3)) (hlk : Cond.classLink Y.1.cls index et_Rn ∈ et_W) (hao : et_Rn ∈ et_AOS) (hx : ¬ x < 0) (hN : x.toNatClampNeg = N) (hb : N * 4 ≤ 536870912) (h1 : nc + 1 ≤ mc) (h2 : ns + N ≤ ms)
    (kk : et_M sc Y d mc ms Post (pc + 3) lv (.ref n :: st) (va_up h n (.inl (3, N, .inr (.inr (.inr (.inr (fun _ => none))))))) (n + 1) (nc + 1) (ns + N)) : et_M sc Y d mc ms Post pc lv (.int x :: st) h n nc ns := by
  intro p l e R s m args below meth c B D dA ls H locs C hP hF hL hl
  subst hN
  refine W.anew (rest := st.map (et_em B)) C.1 C.2.1 C.own (C.hts _ hlk) (va_AO.use (C.wd.2.2.2.2.1 _ hao)) rfl hdg rfl hx hb (by rw [C.rm]; exact h1) (by rw [C.rm]; exact h2) fun cA kA comp e1 e2 e3 e4 => ?_
  obtain ⟨kA', comp', k1, k2, k3, k4⟩ := (C.kk.2 3 _ rfl).2
  have hcA : cA = dA 3 := Option.some.inj (e1.symm.trans k4)
  subst hcA
  have hz : H.size = B + n := hP.1
  rw [hz]
  refine kk p l e R s m args below meth c B D dA ls _ locs C (hP.push (Or.inr ?_) (by simp) (fun q hq => by rw [Array.getElem?_push, if_neg (Nat.ne_of_lt hq)])) (fun q hq => by rw [Array.getElem?_push, if_neg (by omega)]; exact hF q hq) hL hl
  show (H.push _)[B + n]? = some (arrV (dA 3) _ (fun _ => .null))
  rw [← hz, ← arrV_new]
  simp
  rfl
end ETK
end
section
/-! ===== an array of rows is made in one step ===== -/
def et_mo (c : ClassId) (N h0 i : Nat) : Cell := arrV c N (fun j => if j < i then .ref (h0 + 1 + j) else .null)
def et_mi (c : ClassId) (M : Nat) : Cell := arrV c M (fun _ => .int 0)
def et_mst (s : State) (c comp : ClassId) (N M : Nat) : Nat → State
  | 0 => s.pushCell (et_mo c N s.heap.size 0)
  | i + 1 => ((et_mst s c comp N M i).pushCell (et_mi comp M)).setCell s.heap.size (et_mo c N s.heap.size (i + 1))
theorem et_mo_set (c : ClassId) (N h0 i : Nat) : (et_mo c N h0 i).setSlot i (.ref (h0 + 1 + i)) = et_mo c N h0 (i + 1) := by
  unfold et_mo
  rw [arrV_store]
  congr 1
  funext j
  by_cases hj : j = i
  · subst hj
    simp [updV]
  · by_cases hlt : j < i
    · simp [updV, hj, hlt, show j < i + 1 by omega]
    · simp [updV, hj, hlt, show ¬ j < i + 1 by omega]
theorem et_mst_facts (s : State) (c comp : ClassId) (N M : Nat) : ∀ i, (et_mst s c comp N M i).heap.size = s.heap.size + 1 + i ∧ (et_mst s c comp N M i).heap[s.heap.size]? = some (et_mo c N s.heap.size i) ∧ (et_mst s c comp N M i).vm = s.vm ∧ (et_mst s c comp N M i).slotsUsed = s.slotsUsed + N + i * M
  | 0 => by
    refine ⟨by simp [et_mst], by simp [et_mst], rfl, ?_⟩
    have e : (et_mo c N s.heap.size 0).slots.size = N := arrV_size _ _ _
    simp [et_mst, e]
  | i + 1 => by
    obtain ⟨h1, h2, h3, h4⟩ := et_mst_facts s c comp N M i
    have hlt : s.heap.size < (et_mst s c comp N M i).heap.size := by omega
    have h5 : ((et_mst s c comp N M i).pushCell (et_mi comp M)).heap[s.heap.size]? = some (et_mo c N s.heap.size i) := by rw [State.heap_pushCell_of_lt (h := hlt)]; exact h2
    have e : (et_mi comp M).slots.size = M := arrV_size _ _ _
    refine ⟨?_, State.heap_setCell_self h5, by simp [et_mst, h3], ?_⟩
    · simp [et_mst, State.setCell, h1]; omega
    · simp [et_mst, h4, e, Nat.succ_mul]; omega
theorem et_mst_top (s : State) (f : JFrame) (c comp : ClassId) (N M : Nat) : ∀ i, et_mst (s.setTop f) c comp N M i = (et_mst s c comp N M i).setTop f
  | 0 => rfl
  | i + 1 => by simp only [et_mst, et_mst_top s f c comp N M i, State.heap_setTop, State.pushCell_setTop, State.setCell_setTop]
theorem et_mst_old (s : State) (c comp : ClassId) (N M : Nat) {a : Addr} (ha : a < s.heap.size) : ∀ i, (et_mst s c comp N M i).heap[a]? = s.heap[a]?
  | 0 => State.heap_pushCell_of_lt _ _ ha
  | i + 1 => by
    have h1 := (et_mst_facts s c comp N M i).1
    have hlt : a < (et_mst s c comp N M i).heap.size := Nat.lt_of_lt_of_le ha (by omega)
    show (((et_mst s c comp N M i).pushCell (et_mi comp M)).setCell s.heap.size _).heap[a]? = _
    rw [State.heap_setCell_other (Nat.ne_of_gt ha), State.heap_pushCell_of_lt (h := hlt)]
    exact et_mst_old s c comp N M ha i
theorem et_mst_row (s : State) (c comp : ClassId) (N M : Nat) : ∀ i j, j < i → (et_mst s c comp N M i).heap[s.heap.size + 1 + j]? = some (et_mi comp M)
  | 0, _, hj => absurd hj (Nat.not_lt_zero _)
  | i + 1, j, hj => by
    have h1 := (et_mst_facts s c comp N M i).1
    show (((et_mst s c comp N M i).pushCell (et_mi comp M)).setCell s.heap.size _).heap[s.heap.size + 1 + j]? = _
    rw [State.heap_setCell_other (show s.heap.size ≠ s.heap.size + 1 + j by omega)]
    by_cases hlt : j < i
    · have h2 : s.heap.size + 1 + j < (et_mst s c comp N M i).heap.size := by omega
      rw [State.heap_pushCell_of_lt (h := h2)]
      exact et_mst_row s c comp N M i j hlt
    · have e : j = i := by omega
      subst e
      rw [← h1]
      exact State.heap_pushCell_size _ _
section ETMW
variable {E : CtlPost} {e : Env} {d : Bool} {acts : List Action} {s : State}
theorem et_wpNew {c comp : ClassId} {k : Class} {type : FieldType} {len : Nat} {init : Value} (hk : s.vm.classes[c]? = some k) (hkind : k.kind = .array comp type) (h1 : ¬ len > e.platform.arrayLengthLimit) (h2 : ¬ len * componentBytes type > e.platform.maxHeapBytes) (h3 : fits type init = true) (h4 : init.isDefault = true)
    {Q : Addr → Pre} (h5 : s.heap.size < e.platform.maxCells) (h6 : s.slotsUsed + len ≤ e.platform.maxSlots) (hq : Q s.heap.size d acts (s.pushCell (arrV c len (fun _ => init)))) : wp (Jvm.newArray c len init) Q E e d acts s := by
  have h7 : ∀ i v, (Array.replicate len init)[i]? = some v → s.fitsSlot c .none i v = true := by
    intro i v hv
    simp only [Array.getElem?_replicate] at hv
    split at hv
    · cases hv; simp [State.fitsSlot, State.slotType?, hk, hkind, h3]
    · cases hv
  have h8 : allocActs (Array.replicate len init) s.heap.size acts = acts := by
    have h9 : ((Array.replicate len init).all (·.isDefault)) = true := by
      rw [Array.all_replicate]; split <;> simp [h4]
    unfold allocActs; rw [if_pos h9]
  rw [← arrV_new] at hq
  simp only [Jvm.newArray, Jvm.arrayFits, wp_bind', W.ask, W.ite, h1, if_false, wp_pure', W.theClass, hk, hkind, h2, W.alloc, W.stop, Option.some.injEq, exists_eq_left', Array.size_replicate, h8]
  rw [if_neg (by omega)]
  exact ⟨h5, h6, h7, hq⟩
theorem et_wpMake {c comp cc : ClassId} {k kc : Class} {n m : Int32} (hk : s.vm.classes[c]? = some k) (hkind : k.kind = .array comp (.array .int)) (hkc : s.vm.classes[comp]? = some kc) (hkindc : kc.kind = .array cc .int) (hn : ¬ n < 0) (hm : ¬ m < 0)
    (h1 : ¬ n.toNatClampNeg > e.platform.arrayLengthLimit) (h2 : ¬ n.toNatClampNeg * componentBytes (.array .int) > e.platform.maxHeapBytes) (h3 : ¬ m.toNatClampNeg > e.platform.arrayLengthLimit) (h4 : ¬ m.toNatClampNeg * componentBytes .int > e.platform.maxHeapBytes)
    (hc : s.heap.size + 1 + n.toNatClampNeg ≤ e.platform.maxCells) (hs : s.slotsUsed + n.toNatClampNeg + n.toNatClampNeg * m.toNatClampNeg ≤ e.platform.maxSlots)
    {Q : Addr → Pre} (hq : ∀ d' acts', Q s.heap.size d' acts' (et_mst s c comp n.toNatClampNeg m.toNatClampNeg n.toNatClampNeg)) : wp (multianewarray.make c [n, m]) Q E e d acts s := by
  have hfind : ([m].find? (· < 0)) = none := by simp [hm]
  rw [multianewarray.make]
  simp only [wp_bind', W.ite, hn, if_false, wp_pure', W.theClass, hk, hkind, Option.some.injEq, exists_eq_left']
  refine et_wpNew hk hkind h1 h2 rfl rfl (by omega) (by have := Nat.zero_le (n.toNatClampNeg * m.toNatClampNeg); omega) ?_
  simp only [hfind]
  rw [ite_self, wp_bind', Std.Legacy.Range.forIn_eq_forIn_range']
  have hsz : ([:n.toNatClampNeg] : Std.Legacy.Range).size = n.toNatClampNeg := by simp [Std.Legacy.Range.size]
  rw [hsz]
  show wp (forIn (List.range' 0 n.toNatClampNeg 1) PUnit.unit _) _ E e d acts _
  refine wp_forIn_inv (fun rest s' => ∃ i, i ≤ n.toNatClampNeg ∧ rest = List.range' i (n.toNatClampNeg - i) ∧ s' = et_mst s c comp n.toNatClampNeg m.toNatClampNeg i) _ _ ⟨0, Nat.zero_le _, rfl, rfl⟩ ?_ ?_
  · rintro x rest s' d' acts' Q' ⟨i, hi, hl, rfl⟩ hnext
    have hlt : i < n.toNatClampNeg := by
      rcases Nat.lt_or_ge i n.toNatClampNeg with h | h
      · exact h
      · rw [show n.toNatClampNeg - i = 0 from by omega] at hl; simp at hl
    obtain ⟨rfl, hrest⟩ : x = i ∧ rest = List.range' (i + 1) (n.toNatClampNeg - (i + 1)) := by
      rw [show n.toNatClampNeg - i = (n.toNatClampNeg - (i + 1)) + 1 from by omega, List.range'_succ] at hl
      exact ⟨(List.cons.inj hl).1, (List.cons.inj hl).2⟩
    obtain ⟨f1, f2, f3, f4⟩ := et_mst_facts s c comp n.toNatClampNeg m.toNatClampNeg x
    have hmul : x * m.toNatClampNeg + m.toNatClampNeg ≤ n.toNatClampNeg * m.toNatClampNeg := by
      rw [← Nat.succ_mul]; exact Nat.mul_le_mul_right _ hlt
    simp only [wp_bind', multianewarray.make, W.ite, hm, if_false, wp_pure', W.theClass, f3, hkc, hkindc, Option.some.injEq, exists_eq_left']
    refine et_wpNew (by rw [f3]; exact hkc) hkindc h3 h4 rfl rfl (by omega) (by omega) ?_
    have hlt0 : s.heap.size < (et_mst s c comp n.toNatClampNeg m.toNatClampNeg x).heap.size := by omega
    have hcell : ((et_mst s c comp n.toNatClampNeg m.toNatClampNeg x).pushCell (et_mi comp m.toNatClampNeg)).heap[s.heap.size]? = some (et_mo c n.toNatClampNeg s.heap.size x) := by rw [State.heap_pushCell_of_lt (h := hlt0)]; exact f2
    simp only [wp_bind', W.writeLoc]
    refine ⟨_, hcell, (fun h => by cases h), (by rw [show (et_mo c n.toNatClampNeg s.heap.size x).slots.size = n.toNatClampNeg from arrV_size _ _ _]; exact hlt), ?_, ?_⟩
    · show State.fitsSlot _ c .none x _ = true
      simp [State.fitsSlot, State.slotType?, f3, hk, hkind, fits]
    · simp only [wp_pure']
      refine hnext _ _ _ ⟨x + 1, hlt, hrest, ?_⟩
      show _ = (((et_mst s c comp n.toNatClampNeg m.toNatClampNeg x).pushCell (et_mi comp m.toNatClampNeg)).setCell s.heap.size (et_mo c n.toNatClampNeg s.heap.size (x + 1)))
      rw [← et_mo_set, f1]
      rfl
  · rintro s' d' acts' ⟨i, hi, hl, rfl⟩
    have e : i = n.toNatClampNeg := by
      rcases Nat.lt_or_ge i n.toNatClampNeg with h | h
      · rw [show n.toNatClampNeg - i = (n.toNatClampNeg - i - 1) + 1 from by omega, List.range'_succ] at hl; cases hl
      · omega
    subst e
    simp only [wp_pure']
    exact hq _ _
end ETMW
section ETMS
variable {p : Program} {l : Launch} {e : Env} {R : Room} {s : State} {m : MethodId} {args : Array Value} {below : List Frame} {meth : Method} {c : Code} {T : State} {locs : List Loc} {cells slots : Nat}
theorem et_mst_stand (X : Stand p l e R s m args below meth c T locs cells slots) (cA comp : ClassId) (N M : Nat) : ∀ i, Stand p l e R s m args below meth c (et_mst T cA comp N M i) (locs ++ (List.range i).map fun j => ⟨T.heap.size, j⟩) (cells + 1 + i) (slots + N + i * M)
  | 0 => by
    have h := X.pushed (et_mo cA N T.heap.size 0)
    rw [show (et_mo cA N T.heap.size 0).slots.size = N from arrV_size _ _ _] at h
    simpa [et_mst] using h
  | i + 1 => by
    have Xi := et_mst_stand X cA comp N M i
    obtain ⟨f1, f2, -, -⟩ := et_mst_facts T cA comp N M i
    have hlt : T.heap.size < (et_mst T cA comp N M i).heap.size := by omega
    have hcell : ((et_mst T cA comp N M i).pushCell (et_mi comp M)).heap[T.heap.size]? = some (et_mo cA N T.heap.size i) := by rw [State.heap_pushCell_of_lt (h := hlt)]; exact f2
    have h := (Xi.pushed (et_mi comp M)).stored hcell i (.ref (T.heap.size + 1 + i))
    rw [show (et_mi comp M).slots.size = M from arrV_size _ _ _, et_mo_set] at h
    have e2 : (locs ++ (List.range (i + 1)).map fun j => (⟨T.heap.size, j⟩ : Loc)) = (locs ++ (List.range i).map fun j => (⟨T.heap.size, j⟩ : Loc)) ++ [⟨T.heap.size, i⟩] := by simp [List.range_succ, List.append_assoc]
    have e3 : slots + N + (i + 1) * M = slots + N + i * M + M := by rw [Nat.succ_mul]; omega
    rw [e2, e3]
    exact h
set_option maxHeartbeats 1000000 in
theorem et_multiS (X : Stand p l e R s m args below meth c T locs cells slots) (hexec : p.tables.exec = Jvm.exec) {own : String} {index : Nat} (hown : s.vm.findClass own = some m.cls) (hlk : (Cond.classLink own index "[[I").before args s = true) {cA comp cc : ClassId} {kA kC : Class} (hA : s.vm.findClass "[[I" = some cA) (hkA : s.vm.classes[cA]? = some kA) (hkindA : kA.kind = .array comp (.array .int)) (hkC : s.vm.classes[comp]? = some kC) (hkindC : kC.kind = .array cc .int)
    {g : JFrame} (hg : g.method = m) (hdg : decode c.code g.pc = .ok (.multianewarray index 2, 4)) {n k : Int32} {rest : List Value} (hstack : g.stack = .int k :: .int n :: rest) (hn : ¬ n < 0) (hk : ¬ k < 0) (hb1 : n.toNatClampNeg ≤ 1000) (hb2 : k.toNatClampNeg ≤ 1000) (hcells : cells + (1 + n.toNatClampNeg) ≤ R.cells) (hslots : slots + (n.toNatClampNeg + n.toNatClampNeg * k.toNatClampNeg) ≤ R.slots) :
    ∃ vm₁ : Vm, s.WarmedH vm₁ ∧ ∀ target, Steps p.tables e below ((et_mst (T.setVm vm₁) cA comp n.toNatClampNeg k.toNatClampNeg n.toNatClampNeg).setTop { g with pc := g.pc + 4, stack := .ref T.heap.size :: rest }) target → Steps p.tables e below (T.setTop g) target := by
  subst hg
  have hpl : e.platform.magicAccessors = ({} : Platform).magicAccessors := by rw [X.admits.platform]
  obtain ⟨c0, hfc0, hcl⟩ := Cond.classLink_spec hown hlk e.platform hpl
  cases hA.symm.trans hfc0
  obtain ⟨hg₁, hwarm₁, hready₁⟩ := State.classEntry (e := e) X.warmed hcl
  generalize T.vm.noted g.method.cls index (.cls cA) = vm₁ at hg₁ hwarm₁ hready₁
  obtain ⟨kA₁, hkA₁, heA⟩ := hwarm₁.alike.2.2 _ _ hkA
  obtain ⟨kC₁, hkC₁, heC⟩ := hwarm₁.alike.2.2 _ _ hkC
  have hkindA₁ : kA₁.kind = .array comp (.array .int) := by rw [heA]; exact hkindA
  have hkindC₁ : kC₁.kind = .array cc .int := by rw [heC]; exact hkindC
  have X₁ := X.noted hwarm₁
  obtain ⟨hr1, hr2⟩ := X.roomAbove hcells hslots
  refine ⟨vm₁, hwarm₁, fun target hrest => ?_⟩
  have hl1 : ¬ n.toNatClampNeg > e.platform.arrayLengthLimit := by rw [Launch.admits_arrayLengthLimit X.admits]; omega
  have hh1 : ¬ n.toNatClampNeg * componentBytes (.array .int) > e.platform.maxHeapBytes := by
    rw [Launch.admits_maxHeapBytes X.admits]; show ¬ n.toNatClampNeg * 4 > 536870912; omega
  have hl2 : ¬ k.toNatClampNeg > e.platform.arrayLengthLimit := by rw [Launch.admits_arrayLengthLimit X.admits]; omega
  have hh2 : ¬ k.toNatClampNeg * componentBytes .int > e.platform.maxHeapBytes := by
    rw [Launch.admits_maxHeapBytes X.admits]; show ¬ k.toNatClampNeg * 4 > 536870912; omega
  jvm_step X.here [hexec, hdg]
  simp only [multianewarray.sem, wp_bind', W.resolveClassAt_links (State.method?_setTop g X.here.top) hg₁]
  rw [W.popN, if_neg (by decide)]
  refine ⟨g, State.topJava?_setTop' (s := T.setVm vm₁) g X.here.top, [.int n, .int k], rest, rfl, hstack, ?_⟩
  simp only [List.mapM_cons, List.mapM_nil, wp_bind', wp_pure']
  refine et_wpMake (k := kA₁) (kc := kC₁) hkA₁ hkindA₁ hkC₁ hkindC₁ hn hk hl1 hh1 hl2 hh2 (by show T.heap.size + 1 + _ ≤ _; omega) (by show T.slotsUsed + _ + _ ≤ _; omega) (fun d' acts' => ?_)
  have XF := et_mst_stand X₁ cA comp n.toNatClampNeg k.toNatClampNeg n.toNatClampNeg
  have eS : ((T.setTop g).setVm vm₁).setTop { g with stack := rest } = (T.setVm vm₁).setTop { g with stack := rest } := by
    show ((T.setVm vm₁).setTop g).setTop _ = _
    rw [State.setTop_setTop]
  rw [eS, et_mst_top]
  simp only [wp_bind', W.mark, W.pushRef, State.topJava?_setTop' _ XF.here.top, Option.some.injEq, exists_eq_left', State.setTop_setTop, State.heap_setTop]
  intro acts
  simp [jvm, XF.here.top]
  exact hrest
end ETMS
section ETMR
variable {sc : et_X} {Y : et_Y} {d mc ms : Nat} {Post : et_R → (Nat → et_MC) → Nat → Prop} {pc : Nat} {lv : List (Option Value)} {st : List Value} {h : Nat → et_MC} {n nc ns : Nat}
/-- the cells that stand behind it -/
def et_mh (h : Nat → et_MC) (n N M : Nat) : Nat → et_MC := fun j => if j < n then h j else if j = n then .inl (4, N, .inr (.inr (.inr (.inr (fun i => if i < N then some (n + 1 + i) else none))))) else if j < n + 1 + N then .inl (0, M, .inl (fun _ => 0)) else et_void
theorem et_multi {index : Nat} {x z : Int32} {N M : Nat} (hdg : decode Y.2.1 pc = .ok (.multianewarray index 2, 4)) (hlk : Cond.classLink Y.1.cls index "[[I" ∈ et_W) (hx : ¬ x < 0) (hN : x.toNatClampNeg = N) (hz : ¬ z < 0) (hM : z.toNatClampNeg = M) (hb1 : N ≤ 1000) (hb2 : M ≤ 1000) (h1 : nc + (1 + N) ≤ mc) (h2 : ns + (N + N * M) ≤ ms)
    (kk : et_M sc Y d mc ms Post (pc + 4) lv (.ref n :: st) (et_mh h n N M) (n + (1 + N)) (nc + (1 + N)) (ns + (N + N * M))) : et_M sc Y d mc ms Post pc lv (.int z :: .int x :: st) h n nc ns := by
  intro p l e R s m args below meth c B D dA ls H locs C hP hF hL hl T hT X
  subst hN; subst hM
  obtain ⟨-, -, ⟨kA, hkA, hkindA⟩, -⟩ := C.wd.2.2.2.2.2
  have hnA : s.vm.findClass "[[I" = some (dA 4) := (C.kk.2 4 _ rfl).2
  obtain ⟨-, kC, hkC, cc, hkindC⟩ := (C.kk.2 0 _ rfl).1 0 (fun _ => .null)
  obtain ⟨vm₁, hW, step⟩ := et_multiS X C.1 C.own (C.hts _ hlk) hnA hkA hkindA hkC hkindC (g := F0 m pc ls (.int z :: .int x :: st.map (et_em B))) rfl (by rw [C.2.1]; exact hdg) (rest := st.map (et_em B)) rfl hx hz hb1 hb2 (by rw [C.rm]; exact h1) (by rw [C.rm]; exact h2)
  have X1 := et_mst_stand (X.noted hW) (dA 4) (dA 0) x.toNatClampNeg z.toNatClampNeg x.toNatClampNeg
  have f1 := (et_mst_facts (T.setVm vm₁) (dA 4) (dA 0) x.toNatClampNeg z.toNatClampNeg x.toNatClampNeg).1
  have f2 := (et_mst_facts (T.setVm vm₁) (dA 4) (dA 0) x.toNatClampNeg z.toNatClampNeg x.toNatClampNeg).2.1
  have f3 := et_mst_row (T.setVm vm₁) (dA 4) (dA 0) x.toNatClampNeg z.toNatClampNeg x.toNatClampNeg
  have hTs : T.heap.size = B + n := by rw [hT]; exact hP.1
  have hsz : (T.setVm vm₁).heap.size = B + n := hTs
  have hold : ∀ q : Nat, q < B + n → (et_mst (T.setVm vm₁) (dA 4) (dA 0) x.toNatClampNeg z.toNatClampNeg x.toNatClampNeg).heap[q]? = H[q]? := fun q hq => by
    rw [et_mst_old _ _ _ _ _ (by rw [hsz]; exact hq)]
    show T.heap[q]? = _
    rw [hT]
  rw [hsz] at f1 f2 f3
  rw [Nat.add_assoc nc, Nat.add_assoc ns] at X1
  have hP' : et_HP D dA B (et_mh h n x.toNatClampNeg z.toNatClampNeg) (n + (1 + x.toNatClampNeg)) (et_mst (T.setVm vm₁) (dA 4) (dA 0) x.toNatClampNeg z.toNatClampNeg x.toNatClampNeg).heap := by
    refine ⟨by rw [f1]; omega, fun j => ?_⟩
    by_cases c1 : j < n
    · have e : et_mh h n x.toNatClampNeg z.toNatClampNeg j = h j := by simp [et_mh, c1]
      rw [e]
      rcases hP.2 j with h0 | ⟨-, h9⟩
      · exact Or.inl h0
      · exact Or.inr ⟨by omega, h9.kept (hold _ (by omega))⟩
    · by_cases c2 : j = n
      · subst c2
        have e : et_mh h j x.toNatClampNeg z.toNatClampNeg j = .inl (4, x.toNatClampNeg, .inr (.inr (.inr (.inr (fun i => if i < x.toNatClampNeg then some (j + 1 + i) else none))))) := by simp [et_mh]
        rw [e]
        refine Or.inr ⟨by omega, ?_⟩
        show _ = some (arrV (dA 4) x.toNatClampNeg (fun i => va_rf ((if i < x.toNatClampNeg then some (j + 1 + i) else none).map (fun k => B + k))))
        rw [f2]
        unfold et_mo
        congr 2
        funext i
        by_cases c3 : i < x.toNatClampNeg
        · rw [if_pos c3, if_pos c3]
          exact congrArg Value.ref (show (B + j + 1 + i : Nat) = B + (j + 1 + i) by omega)
        · simp [c3, va_rf]
      · by_cases c3 : j < n + 1 + x.toNatClampNeg
        · have e : et_mh h n x.toNatClampNeg z.toNatClampNeg j = .inl (0, z.toNatClampNeg, .inl (fun _ => 0)) := by simp [et_mh, c1, c2, c3]
          rw [e]
          refine Or.inr ⟨by omega, ?_⟩
          show _ = some (arrV (dA 0) z.toNatClampNeg (fun _ => .int 0))
          have h9 := f3 (j - n - 1) (by omega)
          rw [show B + n + 1 + (j - n - 1) = B + j by omega] at h9
          exact h9
        · exact Or.inl (by simp [et_mh, c1, c2, c3])
  obtain ⟨t, a1, b1⟩ := kk p l e R s m args below meth c B D dA ls _ _ C hP' (fun q hq => (hold q (by omega)).trans (hF q hq)) (fun q hq => by
      rcases List.mem_append.mp hq with h9 | h9
      · exact hL q h9
      · obtain ⟨y, -, hy⟩ := List.mem_map.mp h9
        rw [← hy]
        show B ≤ (T.setVm vm₁).heap.size
        rw [hsz]; exact Nat.le_add_right B n) hl _ rfl X1
  rw [hTs] at step
  exact ⟨t, step t a1, b1⟩
end ETMR
end
section
/-! ===== an exception is caught in a caller's own handler; the handler's class may be resolved there for the first time ===== -/
section ETF
variable {E : CtlPost} {e : Env} {d : Bool} {acts : List Action} {s : State} {f : JFrame} {a : Addr} {Q : Handler → Pre}
theorem et_go {x : ExceptionTableEntry} {t : List ExceptionTableEntry} {c : ClassId} {vm' : Vm} {cell : Cell} (hx : covers x f.pc = true) (h0 : x.catchType ≠ 0) (hg : (resolveClass f.method.cls x.catchType).Gives e.toSetting s.vm (.ok c) vm') (hsz : vm'.classes.size ≤ s.vm.classes.size) (hcell : s.heap[a]? = some cell) (hobj : ∀ k, cell.vm ≠ .statics k) (hk : ∃ k, vm'.classes[cell.cls]? = some k) (hc : ∃ k, vm'.classes[c]? = some k) :
    wp (findHandler.go f a (x :: t)) Q E e d acts s ↔ if vm'.assignable cell.cls c = true then Q (.found x.handlerPc) d acts (s.setVm vm') else wp (findHandler.go f a t) Q E e d acts (s.setVm vm') := by
  obtain ⟨ha, ht⟩ := hg.op (op := VmOp.resolveClass f.method.cls x.catchType) rfl
  simp only [covers] at hx
  cases hfit : vm'.assignable cell.cls c <;> simp [findHandler.go, hx, h0, ha, ht, hsz, hcell, hobj, hk, hc, hfit, VmOp.dirties, VmOp.acts]
end ETF
def et_Fn (e : Env) (s : State) (f : JFrame) (a : Addr) (pc : Nat) (vm' : Vm) : Prop :=
  ∀ (Q : Handler → Pre) (E : CtlPost) (d : Bool) (acts : List Action), wp (findHandler f a) Q E e d acts s ↔ Q (.found pc) d acts (s.setVm vm')
theorem et_stepCatch {e : Env} {s : State} {a : Addr} {f : JFrame} {r : List Frame} {pc : Nat} {vm' : Vm} (hfind : et_Fn e s f a pc vm') :
    (stepThrowing e s a (.java f :: r)).Is ((s.setVm vm').setFrames (.java { f with pc := pc, stack := [.ref a] } :: r)) [] := by
  simp only [stepThrowing, searchFrame, vmDo]
  generalize hr : Sem.go _ e false [] s = res
  obtain ⟨as, rfl, ha⟩ := Sem.eq_ok_of hr (a := Handler.found pc) (s' := s.setVm vm') (acts' := []) (by simp [hfind _ _ _ _])
  exact ⟨rfl, ha⟩
section ETF2
variable {tb : Tables} {e : Env} {s target : State} {g : JFrame} {c : Code} {below : List Frame} {a : Addr}
theorem et_caught (h : At s g.method c below) {pc : Nat} {vm' : Vm} (hfind : et_Fn e ((s.setTop g).pushFrame (.throwing a)) g a pc vm') (hrest : Steps tb e below ((s.setVm vm').setTop { g with pc := pc, stack := [.ref a] }) target) :
    Steps tb e below ((s.setTop g).pushFrame (.throwing a)) target := by
  obtain ⟨hgo, hw⟩ := h.throwing a
  refine Steps.head hgo hw ?_
  rw [stepThread_throwing (frames_entered h.top _), (et_stepCatch (s := (s.setTop g).pushFrame (.throwing a)) hfind).1]
  obtain ⟨g₀, hg⟩ := Option.isSome_iff_exists.mp h.top
  obtain ⟨r, hr⟩ := State.topJava?_eq_some.mp hg
  have hr' : (s.setVm vm').frames = .java g₀ :: r := hr
  rw [State.setTop_of_frames _ hr'] at hrest
  rw [State.pushFrame, State.setTop_of_frames _ hr, State.setFrames_setFrames]
  have e1 : ((s.setFrames (.throwing a :: (s.setFrames (.java g :: r)).frames)).setVm vm') = (s.setVm vm').setFrames (.throwing a :: (s.setFrames (.java g :: r)).frames) := rfl
  rw [e1, State.setFrames_setFrames, hr]
  exact hrest
end ETF2
section ETF3
variable {p : Program} {l : Launch} {e : Env} {R : Room} {s : State} {m : MethodId} {args : Array Value} {below : List Frame} {meth : Method} {c : Code} {T : State} {locs : List Loc} {cells slots : Nat}
/-- a class that a handler names, at the tables as they stand: found, and noted -/
theorem et_res (X : Stand p l e R s m args below meth c T locs cells slots) {vm : Vm} (hW : s.WarmedH vm) {own C : String} {index : Nat} (hown : s.vm.findClass own = some m.cls) (hlk : (Cond.classLink own index C).before args s = true) :
    ∃ (c0 : ClassId) (vm' : Vm), s.vm.findClass C = some c0 ∧ (resolveClass m.cls index).Gives e.toSetting vm (.ok c0) vm' ∧ s.WarmedH vm' ∧ vm'.classes.size ≤ vm.classes.size := by
  have hpl : e.platform.magicAccessors = ({} : Platform).magicAccessors := by rw [X.admits.platform]
  obtain ⟨c0, hfc0, hcl⟩ := Cond.classLink_spec hown hlk e.platform hpl
  obtain ⟨hg₁, hwarm₁, -⟩ := State.classEntry (e := e) hW hcl
  exact ⟨c0, _, hfc0, hg₁, hwarm₁, by rw [Vm.size_noted]; exact Nat.le_refl _⟩
theorem et_ents {c : Code} {es : List (Nat × Nat × Nat × Nat)} (h : c.exceptionTable.toList.map (fun h => (h.startPc, h.endPc, h.handlerPc, h.catchType)) = es) : ∃ xs, c.exceptionTable.toList = xs ∧ xs.map (fun h => (h.startPc, h.endPc, h.handlerPc, h.catchType)) = es := ⟨_, rfl, h⟩
theorem et_cls {vm : Vm} {s : State} (hW : s.WarmedH vm) {C : String} {c0 : ClassId} (h : s.vm.findClass C = some c0) : ∃ k, vm.classes[c0]? = some k := by
  have h1 : vm.findClass C = some c0 := by rw [hW.alike.findClass]; exact h
  exact Vm.classAt_of_findClass h1
/-- the first handler takes it -/
theorem et_catch0 (X : Stand p l e R s m args below meth c T locs cells slots) {own C : String} (hown : s.vm.findClass own = some m.cls) {s0 e0 h0 t0 : Nat} {r : List (Nat × Nat × Nat × Nat)} (htab : c.exceptionTable.toList.map (fun h => (h.startPc, h.endPc, h.handlerPc, h.catchType)) = (s0, e0, h0, t0) :: r)
    (hlk : (Cond.classLink own t0 C).before args s = true) (hcast : (Cond.castable C C).before args s = true) (ht0 : t0 ≠ 0) {g : JFrame} (hg : g.method = m) (hcov : s0 ≤ g.pc ∧ g.pc < e0) {a : Addr} {ce : Cell} (hce : T.heap[a]? = some ce) (hst : ce.vm.isStatics = false) (hcls : T.vm.findClass C = some ce.cls) :
    ∃ vm' : Vm, s.WarmedH vm' ∧ ∀ target, Steps p.tables e below ((T.setVm vm').setTop { g with pc := h0, stack := [.ref a] }) target → Steps p.tables e below ((T.setTop g).pushFrame (.throwing a)) target := by
  obtain ⟨c0, vm', hc0, hgv, hW', hsz⟩ := et_res X X.warmed hown hlk
  obtain ⟨c1, c2, k1, k2, k3⟩ := Cond.castable_spec hcast
  cases Option.some.inj (k1.symm.trans hc0)
  cases Option.some.inj (k2.symm.trans hc0)
  have hce0 : ce.cls = c0 := Option.some.inj (hcls.symm.trans ((X.warmed.alike.findClass C none).trans hc0))
  obtain ⟨xs, hxs, hmap⟩ := et_ents htab
  cases xs with
  | nil => cases hmap
  | cons x t =>
    have h1 := (List.cons.inj hmap).1
    simp only [Prod.mk.injEq] at h1
    obtain ⟨i1, i2, i3, i4⟩ := h1
    refine ⟨vm', hW', fun target hrest => et_caught (c := c) (by rw [hg]; exact X.here) (pc := h0) (vm' := vm') ?_ hrest⟩
    intro Q E d acts
    rw [W.findHandler_eq (s := (T.setTop g).pushFrame (.throwing a)) (meth := meth) (code := c) (by rw [hg, throwing_vm]; exact X.method') X.code, hxs]
    rw [et_go (x := x) (t := t) (c := c0) (vm' := vm') (cell := ce) (by simp only [covers, i1, i2]; simp [hcov.1, hcov.2]) (by rw [i4]; exact ht0) (by rw [hg, i4, throwing_vm]; exact hgv) (by rw [throwing_vm]; exact hsz) (by rw [throwing_heap]; exact hce) (VmData.ne_statics_of hst) (by rw [hce0]; exact et_cls hW' hc0) (et_cls hW' hc0)]
    rw [if_pos (by rw [hce0, hW'.alike.assignable]; exact k3), i3]
/-- the second handler takes it, the first being of another class -/
theorem et_catch1 (X : Stand p l e R s m args below meth c T locs cells slots) {own C C' : String} (hown : s.vm.findClass own = some m.cls) {s0 e0 h0 t0 s1 e1 h1 t1 : Nat} {r : List (Nat × Nat × Nat × Nat)} (htab : c.exceptionTable.toList.map (fun h => (h.startPc, h.endPc, h.handlerPc, h.catchType)) = (s0, e0, h0, t0) :: (s1, e1, h1, t1) :: r)
    (hlk0 : (Cond.classLink own t0 C').before args s = true) (hlk : (Cond.classLink own t1 C).before args s = true) (hcast : (Cond.castable C C).before args s = true) (hno : va_Nc C C' s) (ht0 : t0 ≠ 0) (ht1 : t1 ≠ 0) {g : JFrame} (hg : g.method = m) (hcov0 : s0 ≤ g.pc ∧ g.pc < e0) (hcov : s1 ≤ g.pc ∧ g.pc < e1) {a : Addr} {ce : Cell} (hce : T.heap[a]? = some ce) (hst : ce.vm.isStatics = false) (hcls : T.vm.findClass C = some ce.cls) :
    ∃ vm' : Vm, s.WarmedH vm' ∧ ∀ target, Steps p.tables e below ((T.setVm vm').setTop { g with pc := h1, stack := [.ref a] }) target → Steps p.tables e below ((T.setTop g).pushFrame (.throwing a)) target := by
  obtain ⟨cA, vmA, hcA, hgA, hWA, hszA⟩ := et_res X X.warmed hown hlk0
  obtain ⟨c0, vm', hc0, hgv, hW', hsz⟩ := et_res X hWA hown hlk
  obtain ⟨c1, c2, k1, k2, k3⟩ := Cond.castable_spec hcast
  cases Option.some.inj (k1.symm.trans hc0)
  cases Option.some.inj (k2.symm.trans hc0)
  obtain ⟨n1, n2, j1, j2, j3⟩ := hno
  cases Option.some.inj (j1.symm.trans hc0)
  cases Option.some.inj (j2.symm.trans hcA)
  have hce0 : ce.cls = c0 := Option.some.inj (hcls.symm.trans ((X.warmed.alike.findClass C none).trans hc0))
  obtain ⟨xs, hxs, hmap⟩ := et_ents htab
  match xs, hmap with
  | x :: y :: t, hmap =>
    have h2 := (List.cons.inj hmap).1
    have h3 := (List.cons.inj (List.cons.inj hmap).2).1
    simp only [Prod.mk.injEq] at h2 h3
    obtain ⟨i1, i2, i3, i4⟩ := h2
    obtain ⟨y1, y2, y3, y4⟩ := h3
    refine ⟨vm', hW', fun target hrest => et_caught (c := c) (by rw [hg]; exact X.here) (pc := h1) (vm' := vm') ?_ hrest⟩
    intro Q E d acts
    rw [W.findHandler_eq (s := (T.setTop g).pushFrame (.throwing a)) (meth := meth) (code := c) (by rw [hg, throwing_vm]; exact X.method') X.code, hxs]
    rw [et_go (x := x) (t := y :: t) (c := cA) (vm' := vmA) (cell := ce) (by simp only [covers, i1, i2]; simp [hcov0.1, hcov0.2]) (by rw [i4]; exact ht0) (by rw [hg, i4, throwing_vm]; exact hgA) (by rw [throwing_vm]; exact hszA) (by rw [throwing_heap]; exact hce) (VmData.ne_statics_of hst) (by rw [hce0]; exact et_cls hWA hc0) (et_cls hWA hcA)]
    rw [if_neg (by rw [hce0, hWA.alike.assignable, j3]; decide)]
    rw [et_go (s := ((T.setTop g).pushFrame (.throwing a)).setVm vmA) (x := y) (t := t) (c := c0) (vm' := vm') (cell := ce) (by simp only [covers, y1, y2]; simp [hcov.1, hcov.2]) (by rw [y4]; exact ht1) (by rw [hg, y4]; exact hgv) hsz (by show ((T.setTop g).pushFrame (.throwing a)).heap[a]? = _; rw [throwing_heap]; exact hce) (VmData.ne_statics_of hst) (by rw [hce0]; exact et_cls hW' hc0) (et_cls hW' hc0)]
    rw [if_pos (by rw [hce0, hW'.alike.assignable]; exact k3), y3]
    rfl
end ETF3
section ETF4
variable {sc : et_X} {Y : et_Y} {d mc ms : Nat} {Post : et_R → (Nat → et_MC) → Nat → Prop} {pc : Nat} {lv : List (Option Value)} {st : List Value} {h : Nat → et_MC} {n nc ns : Nat}
/-- the handler that takes an exception of the kind x thrown at pc -/
def et_hnd (Y : et_Y) (x pc hpc : Nat) : Prop :=
  (x = 0 ∧ ∃ s0 e0 t0 r, Y.2.2.2.2 = (s0, e0, hpc, t0) :: r ∧ Cond.classLink Y.1.cls t0 (et_exn 0) ∈ et_W ∧ Cond.castable (et_exn 0) (et_exn 0) ∈ et_NST ∧ t0 ≠ 0 ∧ s0 ≤ pc ∧ pc < e0) ∨
  (x = 1 ∧ ∃ s0 e0 h0 t0 s1 e1 t1 r, Y.2.2.2.2 = (s0, e0, h0, t0) :: (s1, e1, hpc, t1) :: r ∧ Cond.classLink Y.1.cls t0 (et_exn 0) ∈ et_W ∧ Cond.classLink Y.1.cls t1 (et_exn 1) ∈ et_W ∧ Cond.castable (et_exn 1) (et_exn 1) ∈ et_NST ∧ t0 ≠ 0 ∧ t1 ≠ 0 ∧ s0 ≤ pc ∧ pc < e0 ∧ s1 ≤ pc ∧ pc < e1)
theorem et_contC {Pc : et_R → (Nat → et_MC) → Nat → Prop} {mcc msc : Nat} {p : Program} {l : Launch} {e : Env} {R : Room} {s : State} {m : MethodId} {args : Array Value} {below : List Frame} {meth : Method} {c : Code} {B : Nat} {D : va_G} {dA : Nat → ClassId} {ls : Array Slot} {H : Heap} {locs : List Loc} {stk : List Value} {aa : Array Value}
    (C : et_C sc Y d mc ms B D dA p l R s m args meth c) (hF : ∀ q : Nat, q < B → H[q]? = s.heap[q]?) (hL : ∀ q ∈ locs, B ≤ q.base) (hl : lv_has ls Y.2.2.1 (et_ll B 0 lv))
    (hr : et_Run p l e R s m args below meth c H locs nc ns mcc msc (F0 m pc ls stk) (st.map (et_em B)) (et_Qc B D dA Pc aa) (fun q => B ≤ q))
    (kR : ∀ (v : Option Value) (h' : Nat → et_MC) (n' : Nat), Pc (.inl v) h' n' → et_M sc Y d mc ms Post (pc + 3) lv (v.toList ++ st) h' n' (nc + mcc) (ns + msc))
    (kT : ∀ (x a : Nat) (h' : Nat → et_MC) (n' : Nat), Pc (.inr x) h' n' → ∃ hpc, et_hnd Y x pc hpc ∧ et_M sc Y d mc ms Post hpc lv [.ref a] h' n' (nc + mcc) (ns + msc)) :
    W p l e R s m args below meth c H locs nc ns (et_Q below (et_Qc B D dA Post) args s mc ms (fun q => B ≤ q)) (F0 m pc ls stk) := by
  intro T hT X
  obtain ⟨o, st₀, t, T', L, h0, X', hL', e1, e2, ⟨⟨r, h', n', hp, hP', hO⟩, hF'⟩, hd⟩ := hr T hT X
  have hFT : ∀ q : Nat, q < B → T'.heap[q]? = s.heap[q]? := fun q hq => by rw [e1, hF' q hq, h0]; exact hF q hq
  have hLL : ∀ q ∈ locs ++ L, B ≤ q.base := fun q hq => by
    rcases List.mem_append.mp hq with h | h
    · exact hL q h
    · exact hL' q h
  cases r with
  | inl v =>
    have hO' : o = .returned (v.map (et_em B)) := hO
    subst hO'
    rcases hd with ⟨v', hv', hst⟩ | ⟨x, hx, -⟩
    · cases hv'
      obtain ⟨t2, a1, b1⟩ := kR v h' n' hp p l e R s m args below meth c B D dA ls T'.heap (locs ++ L) C (by rw [e1]; exact hP') hFT hLL hl T' rfl X'
      refine ⟨t2, hst t2 ?_, b1⟩
      have e9 : (v.toList ++ st).map (et_em B) = (v.map (et_em B)).toList ++ st.map (et_em B) := by cases v <;> rfl
      rw [e9] at a1
      exact a1
    · cases hx
  | inr x =>
    obtain ⟨a, ce, hO1, hO2, hO3, hO4⟩ := hO
    subst hO1
    obtain ⟨hpc, hh, hm⟩ := kT x a h' n' hp
    rcases hd with ⟨v', hv', -⟩ | ⟨x', hx, hst⟩
    · cases hv'
    · cases hx
      have key : ∃ vm' : Vm, s.WarmedH vm' ∧ ∀ target, Steps p.tables e below ((T'.setVm vm').setTop (F0 m hpc ls [.ref (B + a)])) target → Steps p.tables e below ((T'.setTop { F0 m pc ls stk with stack := st.map (et_em B) }).pushFrame (.throwing (B + a))) target := by
        rcases hh with ⟨rfl, s0, e0, t0, r, q1, q2, q3, q4, q5, q6⟩ | ⟨rfl, s0, e0, h0, t0, s1, e1', t1, r, q1, q2, q3, q4, q5, q6, q7, q8, q9, q10⟩
        · exact et_catch0 X' (g := { F0 m pc ls stk with stack := st.map (et_em B) }) C.own (C.tab.trans q1) (C.hts _ q2) (et_nst C.wd q3) q4 rfl ⟨q5, q6⟩ (by rw [e1]; exact hO2) hO4 (by rw [e2]; exact hO3)
        · exact et_catch1 X' (g := { F0 m pc ls stk with stack := st.map (et_em B) }) C.own (C.tab.trans q1) (C.hts _ q2) (C.hts _ q3) (et_nst C.wd q4) C.wd.2.2.2.2.2.2.2.2 q5 q6 rfl ⟨q7, q8⟩ ⟨q9, q10⟩ (by rw [e1]; exact hO2) hO4 (by rw [e2]; exact hO3)
      obtain ⟨vm', hW', step⟩ := key
      obtain ⟨t2, a1, b1⟩ := hm p l e R s m args below meth c B D dA ls T'.heap (locs ++ L) C (by rw [e1]; exact hP') hFT hLL hl (T'.setVm vm') rfl (X'.noted hW')
      exact ⟨t2, hst t2 (step t2 a1), b1⟩
theorem et_invVc {Yc : et_Y} (mf : et_MV Yc) {dc mcc msc : Nat} {Pc : et_R → (Nat → et_MC) → Nat → Prop} {index k ci : Nat} {As stk fs : List Value} {T : u_T} {N : Nat} (hst : stk = As.reverse ++ .ref k :: st) (hdg : decode Y.2.1 pc = .ok (.invokevirtual index, 3)) (hlk : et_lk Y.1.cls index Yc.1) (hlen : (parseMethodDescriptor Yc.1.desc).map (fun d => d.parameters.length) = some As.length) (hh : h k = .inr (ci, fs)) (hc : et_cl[ci]? = some (Yc.1.cls, T, N)) (hsum : (st.map fun v => v.category).sum ≤ 8)
    (hcn : et_Cn sc Yc dc (.ref k :: As) h n mcc msc Pc) (hd : dc + 1 ≤ d) (h1 : nc + mcc ≤ mc) (h2 : ns + msc ≤ ms)
    (kR : ∀ (v : Option Value) (h' : Nat → et_MC) (n' : Nat), Pc (.inl v) h' n' → et_M sc Y d mc ms Post (pc + 3) lv (v.toList ++ st) h' n' (nc + mcc) (ns + msc))
    (kT : ∀ (x a : Nat) (h' : Nat → et_MC) (n' : Nat), Pc (.inr x) h' n' → ∃ hpc, et_hnd Y x pc hpc ∧ et_M sc Y d mc ms Post hpc lv [.ref a] h' n' (nc + mcc) (ns + msc)) : et_M sc Y d mc ms Post pc lv stk h n nc ns := by
  intro p l e R s m args below meth c B D dA ls H locs C hP hF hL hl
  subst hst
  obtain ⟨m1, m2, m3, m4, m5, m6, m7⟩ := mf
  obtain ⟨-, cell, q1, q2, q3, -⟩ := hP.obj hh hc
  obtain ⟨host, hlink⟩ := hlk.use C
  have hrun := et_runV (p := p) (e := e) (m := m) (below := below) (meth := meth) (c := c) (locs := locs) (cells := nc) (slots := ns) (host := host) (C := Yc.1.cls) (index := index) (b := B + k) (As := As.map (et_em B)) (rest := st.map (et_em B)) (g := F0 m pc ls ((As.reverse ++ .ref k :: st).map (et_em B))) C.1 C.2.1 C.own (et_cb C hP hF hcn hd m7 m1 m2) hlink (C.hts _ m3) (C.hts _ m4) ⟨m5, m6⟩
    ⟨cell, q1, by rw [q3]; rfl, by rw [q2]; exact (C.kk.1 ci _ hc).2.1⟩ rfl (by rw [List.length_map]; exact hlen) (hl.1.trans C.2.2.1.symm) (by show (As.reverse ++ .ref k :: st).map (et_em B) = _; rw [List.map_append, List.map_reverse]; rfl) (by rw [et_sumc]; show 2 * 0 + _ ≤ 8; omega) hdg (by rw [C.rm]; exact ⟨h1, h2⟩)
  exact et_contC C hF hL hl hrun kR kT
end ETF4
end
section
/-! ===== methods, and what is known of them ===== -/
abbrev Y_E_init : et_Y := (⟨"EqualTerms", "<init>", "()V"⟩, prog_1_method_1_code, 1, none, [])
set_option maxRecDepth 100000 in
theorem mI_E_init : et_MI Y_E_init := ⟨et_in 73 rfl rfl, et_in 52 (by decide +kernel) (by decide +kernel), et_in 72 (by decide +kernel) (by decide +kernel), by decide, by decide, by decide, rfl, rfl, rfl⟩
abbrev Y_O_init : et_Y := (⟨"java/lang/Object", "<init>", "()V"⟩, object_method_1_code, 1, none, [])
abbrev Y_T_init : et_Y := (⟨"EqualTerms$Text", "<init>", "()V"⟩, prog_7_method_1_code, 1, none, [])
set_option maxRecDepth 100000 in
theorem mI_T_init : et_MI Y_T_init := ⟨et_in 81 rfl rfl, et_in 53 (by decide +kernel) (by decide +kernel), et_in 80 (by decide +kernel) (by decide +kernel), by decide, by decide, by decide, rfl, rfl, rfl⟩
abbrev Y_G_init : et_Y := (⟨"EqualTerms$Graph", "<init>", "()V"⟩, prog_3_method_1_code, 1, none, [])
set_option maxRecDepth 100000 in
theorem mI_G_init : et_MI Y_G_init := ⟨et_in 108 rfl rfl, et_in 54 (by decide +kernel) (by decide +kernel), et_in 107 (by decide +kernel) (by decide +kernel), by decide, by decide, by decide, rfl, rfl, rfl⟩
abbrev Y_K_init : et_Y := (⟨"EqualTerms$Walk", "<init>", "(LEqualTerms$Graph;)V"⟩, prog_8_method_1_code, 2, none, [])
set_option maxRecDepth 100000 in
theorem mI_K_init : et_MI Y_K_init := ⟨et_in 153 rfl rfl, et_in 55 (by decide +kernel) (by decide +kernel), et_in 152 (by decide +kernel) (by decide +kernel), by decide, by decide, by decide, rfl, rfl, rfl⟩
abbrev Y_R_init : et_Y := (⟨"EqualTerms$Round", "<init>", "(LEqualTerms$Graph;LEqualTerms$Walk;)V"⟩, prog_4_method_1_code, 3, none, [])
set_option maxRecDepth 100000 in
theorem mI_R_init : et_MI Y_R_init := ⟨et_in 170 rfl rfl, et_in 56 (by decide +kernel) (by decide +kernel), et_in 169 (by decide +kernel) (by decide +kernel), by decide, by decide, by decide, rfl, rfl, rfl⟩
abbrev Y_C_init : et_Y := (⟨"EqualTerms$Cheapest", "<init>", "(LEqualTerms$Graph;)V"⟩, prog_2_method_1_code, 2, none, [])
set_option maxRecDepth 100000 in
theorem mI_C_init : et_MI Y_C_init := ⟨et_in 196 rfl rfl, et_in 57 (by decide +kernel) (by decide +kernel), et_in 195 (by decide +kernel) (by decide +kernel), by decide, by decide, by decide, rfl, rfl, rfl⟩
abbrev Y_A_fill_II : et_Y := (⟨"java/util/Arrays", "fill", "([II)V"⟩, prog_20_method_103_code, 4, none, [])
set_option maxRecDepth 100000 in
theorem mS_A_fill_II : et_MS Y_A_fill_II := ⟨et_in 202 rfl rfl, et_in 58 (by decide +kernel) (by decide +kernel), et_in 201 (by decide +kernel) (by decide +kernel), by decide, by decide, by decide⟩
abbrev Y_E_type : et_Y := (⟨"EqualTerms", "type", "(JI)I"⟩, prog_1_method_2_code, 4, (some .int), [])
set_option maxRecDepth 100000 in
theorem mV_E_type : et_MV Y_E_type := ⟨et_in 254 rfl rfl, et_in 52 (by decide +kernel) (by decide +kernel), et_in 252 (by decide +kernel) (by decide +kernel), et_in 253 (by decide +kernel) (by decide +kernel), by decide, by decide, by decide⟩
abbrev Y_T_append : et_Y := (⟨"EqualTerms$Text", "append", "(JI)I"⟩, prog_7_method_2_code, 6, (some .int), [])
set_option maxRecDepth 100000 in
theorem mV_T_append : et_MV Y_T_append := ⟨et_in 258 rfl rfl, et_in 53 (by decide +kernel) (by decide +kernel), et_in 256 (by decide +kernel) (by decide +kernel), et_in 257 (by decide +kernel) (by decide +kernel), by decide, by decide, by decide⟩
abbrev Y_T_byteAt : et_Y := (⟨"EqualTerms$Text", "byteAt", "(JI)I"⟩, prog_7_method_3_code, 3, (some .int), [])
set_option maxRecDepth 100000 in
theorem mS_T_byteAt : et_MS Y_T_byteAt := ⟨et_in 261 rfl rfl, et_in 53 (by decide +kernel) (by decide +kernel), et_in 260 (by decide +kernel) (by decide +kernel), by decide, by decide, by decide⟩
abbrev Y_E_wipe : et_Y := (⟨"EqualTerms", "wipe", "()I"⟩, prog_1_method_3_code, 2, (some .int), [])
set_option maxRecDepth 100000 in
theorem mV_E_wipe : et_MV Y_E_wipe := ⟨et_in 266 rfl rfl, et_in 52 (by decide +kernel) (by decide +kernel), et_in 264 (by decide +kernel) (by decide +kernel), et_in 265 (by decide +kernel) (by decide +kernel), by decide, by decide, by decide⟩
abbrev Y_T_clear : et_Y := (⟨"EqualTerms$Text", "clear", "()V"⟩, prog_7_method_4_code, 1, none, [])
set_option maxRecDepth 100000 in
theorem mV_T_clear : et_MV Y_T_clear := ⟨et_in 270 rfl rfl, et_in 53 (by decide +kernel) (by decide +kernel), et_in 268 (by decide +kernel) (by decide +kernel), et_in 269 (by decide +kernel) (by decide +kernel), by decide, by decide, by decide⟩
abbrev Y_E_character : et_Y := (⟨"EqualTerms", "character", "(I)I"⟩, prog_1_method_4_code, 2, (some .int), [])
set_option maxRecDepth 100000 in
theorem mV_E_character : et_MV Y_E_character := ⟨et_in 274 rfl rfl, et_in 52 (by decide +kernel) (by decide +kernel), et_in 272 (by decide +kernel) (by decide +kernel), et_in 273 (by decide +kernel) (by decide +kernel), by decide, by decide, by decide⟩
abbrev Y_E_place : et_Y := (⟨"EqualTerms", "place", "()I"⟩, prog_1_method_5_code, 1, (some .int), [])
set_option maxRecDepth 100000 in
theorem mV_E_place : et_MV Y_E_place := ⟨et_in 278 rfl rfl, et_in 52 (by decide +kernel) (by decide +kernel), et_in 276 (by decide +kernel) (by decide +kernel), et_in 277 (by decide +kernel) (by decide +kernel), by decide, by decide, by decide⟩
abbrev Y_E_nodes : et_Y := (⟨"EqualTerms", "nodes", "()I"⟩, prog_1_method_12_code, 1, (some .int), [])
set_option maxRecDepth 100000 in
theorem mV_E_nodes : et_MV Y_E_nodes := ⟨et_in 282 rfl rfl, et_in 52 (by decide +kernel) (by decide +kernel), et_in 280 (by decide +kernel) (by decide +kernel), et_in 281 (by decide +kernel) (by decide +kernel), by decide, by decide, by decide⟩
abbrev Y_E_classes : et_Y := (⟨"EqualTerms", "classes", "()I"⟩, prog_1_method_13_code, 1, (some .int), [])
set_option maxRecDepth 100000 in
theorem mV_E_classes : et_MV Y_E_classes := ⟨et_in 286 rfl rfl, et_in 52 (by decide +kernel) (by decide +kernel), et_in 284 (by decide +kernel) (by decide +kernel), et_in 285 (by decide +kernel) (by decide +kernel), by decide, by decide, by decide⟩
abbrev Y_L_rule : et_Y := (⟨"EqualTermsLaw", "rule", "(LEqualTerms;[J)I"⟩, method_3_code, 3, (some .int), [(0, 8, 11, 13), (0, 8, 14, 15)])
set_option maxRecDepth 100000 in
theorem mS_L_rule : et_MS Y_L_rule := ⟨et_in 289 rfl rfl, et_in 51 (by decide +kernel) (by decide +kernel), et_in 288 (by decide +kernel) (by decide +kernel), by decide, by decide, by decide⟩
abbrev Y_E_rule : et_Y := (⟨"EqualTerms", "rule", "()I"⟩, prog_1_method_6_code, 1, (some .int), [])
set_option maxRecDepth 100000 in
theorem mV_E_rule : et_MV Y_E_rule := ⟨et_in 295 rfl rfl, et_in 52 (by decide +kernel) (by decide +kernel), et_in 293 (by decide +kernel) (by decide +kernel), et_in 294 (by decide +kernel) (by decide +kernel), by decide, by decide, by decide⟩
abbrev Y_T_isRule : et_Y := (⟨"EqualTerms$Text", "isRule", "()Z"⟩, prog_7_method_8_code, 1, (some .boolean), [])
set_option maxRecDepth 100000 in
theorem mV_T_isRule : et_MV Y_T_isRule := ⟨et_in 299 rfl rfl, et_in 53 (by decide +kernel) (by decide +kernel), et_in 297 (by decide +kernel) (by decide +kernel), et_in 298 (by decide +kernel) (by decide +kernel), by decide, by decide, by decide⟩
abbrev Y_T_firstWrong : et_Y := (⟨"EqualTerms$Text", "firstWrong", "(ZZ)I"⟩, prog_7_method_10_code, 6, (some .int), [])
set_option maxRecDepth 100000 in
theorem mV_T_firstWrong : et_MV Y_T_firstWrong := ⟨et_in 303 rfl rfl, et_in 53 (by decide +kernel) (by decide +kernel), et_in 302 (by decide +kernel) (by decide +kernel), et_in 0 (by decide +kernel) (by decide +kernel), by decide, by decide, by decide⟩
abbrev Y_T_partsInRule : et_Y := (⟨"EqualTerms$Text", "partsInRule", "(I)I"⟩, prog_7_method_11_code, 3, (some .int), [])
set_option maxRecDepth 100000 in
theorem mV_T_partsInRule : et_MV Y_T_partsInRule := ⟨et_in 307 rfl rfl, et_in 53 (by decide +kernel) (by decide +kernel), et_in 306 (by decide +kernel) (by decide +kernel), et_in 1 (by decide +kernel) (by decide +kernel), by decide, by decide, by decide⟩
abbrev Y_S_isVariable : et_Y := (⟨"EqualTerms$Signs", "isVariable", "(I)Z"⟩, prog_6_method_3_code, 1, (some .boolean), [])
set_option maxRecDepth 100000 in
theorem mS_S_isVariable : et_MS Y_S_isVariable := ⟨et_in 310 rfl rfl, et_in 60 (by decide +kernel) (by decide +kernel), et_in 309 (by decide +kernel) (by decide +kernel), by decide, by decide, by decide⟩
abbrev Y_T_inFirstSide : et_Y := (⟨"EqualTerms$Text", "inFirstSide", "(I)Z"⟩, prog_7_method_12_code, 3, (some .boolean), [])
set_option maxRecDepth 100000 in
theorem mV_T_inFirstSide : et_MV Y_T_inFirstSide := ⟨et_in 314 rfl rfl, et_in 53 (by decide +kernel) (by decide +kernel), et_in 313 (by decide +kernel) (by decide +kernel), et_in 2 (by decide +kernel) (by decide +kernel), by decide, by decide, by decide⟩
abbrev Y_S_partsInPattern : et_Y := (⟨"EqualTerms$Signs", "partsInPattern", "(I)I"⟩, prog_6_method_4_code, 1, (some .int), [])
set_option maxRecDepth 100000 in
theorem mS_S_partsInPattern : et_MS Y_S_partsInPattern := ⟨et_in 317 rfl rfl, et_in 60 (by decide +kernel) (by decide +kernel), et_in 316 (by decide +kernel) (by decide +kernel), by decide, by decide, by decide⟩
abbrev Y_S_parts : et_Y := (⟨"EqualTerms$Signs", "parts", "(I)I"⟩, prog_6_method_2_code, 1, (some .int), [])
set_option maxRecDepth 100000 in
theorem mS_S_parts : et_MS Y_S_parts := ⟨et_in 321 rfl rfl, et_in 60 (by decide +kernel) (by decide +kernel), et_in 320 (by decide +kernel) (by decide +kernel), by decide, by decide, by decide⟩
abbrev Y_T_noteWrong : et_Y := (⟨"EqualTerms$Text", "noteWrong", "(I)Z"⟩, prog_7_method_9_code, 2, (some .boolean), [])
set_option maxRecDepth 100000 in
theorem mV_T_noteWrong : et_MV Y_T_noteWrong := ⟨et_in 326 rfl rfl, et_in 53 (by decide +kernel) (by decide +kernel), et_in 325 (by decide +kernel) (by decide +kernel), et_in 3 (by decide +kernel) (by decide +kernel), by decide, by decide, by decide⟩
abbrev Y_U_init : et_Y := (⟨"EqualTerms$Rule", "<init>", "(LEqualTerms$Text;)V"⟩, prog_5_method_1_code, 6, none, [])
set_option maxRecDepth 100000 in
theorem mI_U_init : et_MI Y_U_init := ⟨et_in 413 rfl rfl, et_in 66 (by decide +kernel) (by decide +kernel), et_in 412 (by decide +kernel) (by decide +kernel), by decide, by decide, by decide, rfl, rfl, rfl⟩
abbrev Y_A_copyOf : et_Y := (⟨"java/util/Arrays", "copyOf", "([II)[I"⟩, prog_20_method_123_code, 3, (some (.array .int)), [])
set_option maxRecDepth 100000 in
theorem mS_A_copyOf : et_MS Y_A_copyOf := ⟨et_in 417 rfl rfl, et_in 58 (by decide +kernel) (by decide +kernel), et_in 416 (by decide +kernel) (by decide +kernel), by decide, by decide, by decide⟩
abbrev Y_H_min : et_Y := (⟨"java/lang/Math", "min", "(II)I"⟩, prog_15_method_69_code, 2, (some .int), [])
set_option maxRecDepth 100000 in
theorem mS_H_min : et_MS Y_H_min := ⟨et_in 427 rfl rfl, et_in 67 (by decide +kernel) (by decide +kernel), et_in 426 (by decide +kernel) (by decide +kernel), by decide, by decide, by decide⟩
abbrev Y_U_endOfPattern : et_Y := (⟨"EqualTerms$Rule", "endOfPattern", "([II)I"⟩, prog_5_method_2_code, 4, (some .int), [])
set_option maxRecDepth 100000 in
theorem mS_U_endOfPattern : et_MS Y_U_endOfPattern := ⟨et_in 435 rfl rfl, et_in 66 (by decide +kernel) (by decide +kernel), et_in 434 (by decide +kernel) (by decide +kernel), by decide, by decide, by decide⟩
abbrev Y_L_add : et_Y := (⟨"EqualTermsLaw", "add", "(LEqualTerms;[J)I"⟩, method_4_code, 3, (some .int), [(0, 8, 11, 13), (0, 8, 14, 15)])
set_option maxRecDepth 100000 in
theorem mS_L_add : et_MS Y_L_add := ⟨et_in 457 rfl rfl, et_in 51 (by decide +kernel) (by decide +kernel), et_in 456 (by decide +kernel) (by decide +kernel), by decide, by decide, by decide⟩
abbrev Y_E_add : et_Y := (⟨"EqualTerms", "add", "()I"⟩, prog_1_method_7_code, 3, (some .int), [])
set_option maxRecDepth 100000 in
theorem mV_E_add : et_MV Y_E_add := ⟨et_in 461 rfl rfl, et_in 52 (by decide +kernel) (by decide +kernel), et_in 459 (by decide +kernel) (by decide +kernel), et_in 460 (by decide +kernel) (by decide +kernel), by decide, by decide, by decide⟩
abbrev Y_E_demandTerm : et_Y := (⟨"EqualTerms", "demandTerm", "()V"⟩, prog_1_method_17_code, 1, none, [])
set_option maxRecDepth 100000 in
theorem mV_E_demandTerm : et_MV Y_E_demandTerm := ⟨et_in 465 rfl rfl, et_in 52 (by decide +kernel) (by decide +kernel), et_in 464 (by decide +kernel) (by decide +kernel), et_in 5 (by decide +kernel) (by decide +kernel), by decide, by decide, by decide⟩
abbrev Y_T_isTerm : et_Y := (⟨"EqualTerms$Text", "isTerm", "()Z"⟩, prog_7_method_6_code, 1, (some .boolean), [])
set_option maxRecDepth 100000 in
theorem mV_T_isTerm : et_MV Y_T_isTerm := ⟨et_in 469 rfl rfl, et_in 53 (by decide +kernel) (by decide +kernel), et_in 467 (by decide +kernel) (by decide +kernel), et_in 468 (by decide +kernel) (by decide +kernel), by decide, by decide, by decide⟩
abbrev Y_K_classOf : et_Y := (⟨"EqualTerms$Walk", "classOf", "([IIIZ)I"⟩, prog_8_method_2_code, 11, (some .int), [])
set_option maxRecDepth 100000 in
theorem mV_K_classOf : et_MV Y_K_classOf := ⟨et_in 474 rfl rfl, et_in 55 (by decide +kernel) (by decide +kernel), et_in 472 (by decide +kernel) (by decide +kernel), et_in 473 (by decide +kernel) (by decide +kernel), by decide, by decide, by decide⟩
abbrev Y_G_homeOf : et_Y := (⟨"EqualTerms$Graph", "homeOf", "(IIIZ)I"⟩, prog_3_method_2_code, 6, (some .int), [])
set_option maxRecDepth 100000 in
theorem mV_G_homeOf : et_MV Y_G_homeOf := ⟨et_in 480 rfl rfl, et_in 54 (by decide +kernel) (by decide +kernel), et_in 478 (by decide +kernel) (by decide +kernel), et_in 479 (by decide +kernel) (by decide +kernel), by decide, by decide, by decide⟩
abbrev Y_G_nodeAmong : et_Y := (⟨"EqualTerms$Graph", "nodeAmong", "(IIII)I"⟩, prog_3_method_3_code, 6, (some .int), [])
set_option maxRecDepth 100000 in
theorem mV_G_nodeAmong : et_MV Y_G_nodeAmong := ⟨et_in 484 rfl rfl, et_in 54 (by decide +kernel) (by decide +kernel), et_in 483 (by decide +kernel) (by decide +kernel), et_in 6 (by decide +kernel) (by decide +kernel), by decide, by decide, by decide⟩
abbrev Y_G_putNode : et_Y := (⟨"EqualTerms$Graph", "putNode", "(IIIII)V"⟩, prog_3_method_4_code, 6, none, [])
set_option maxRecDepth 100000 in
theorem mV_G_putNode : et_MV Y_G_putNode := ⟨et_in 488 rfl rfl, et_in 54 (by decide +kernel) (by decide +kernel), et_in 487 (by decide +kernel) (by decide +kernel), et_in 7 (by decide +kernel) (by decide +kernel), by decide, by decide, by decide⟩
abbrev Y_G_goBack : et_Y := (⟨"EqualTerms$Graph", "goBack", "(II)V"⟩, prog_3_method_6_code, 3, none, [])
set_option maxRecDepth 100000 in
theorem mV_G_goBack : et_MV Y_G_goBack := ⟨et_in 492 rfl rfl, et_in 54 (by decide +kernel) (by decide +kernel), et_in 490 (by decide +kernel) (by decide +kernel), et_in 491 (by decide +kernel) (by decide +kernel), by decide, by decide, by decide⟩
abbrev Y_G_nameAllByNumber : et_Y := (⟨"EqualTerms$Graph", "nameAllByNumber", "()V"⟩, prog_3_method_7_code, 2, none, [])
set_option maxRecDepth 100000 in
theorem mV_G_nameAllByNumber : et_MV Y_G_nameAllByNumber := ⟨et_in 496 rfl rfl, et_in 54 (by decide +kernel) (by decide +kernel), et_in 495 (by decide +kernel) (by decide +kernel), et_in 8 (by decide +kernel) (by decide +kernel), by decide, by decide, by decide⟩
abbrev Y_L_unite : et_Y := (⟨"EqualTermsLaw", "unite", "(LEqualTerms;[J)I"⟩, method_5_code, 3, (some .int), [(0, 8, 11, 13), (0, 8, 14, 15)])
set_option maxRecDepth 100000 in
theorem mS_L_unite : et_MS Y_L_unite := ⟨et_in 500 rfl rfl, et_in 51 (by decide +kernel) (by decide +kernel), et_in 499 (by decide +kernel) (by decide +kernel), by decide, by decide, by decide⟩
abbrev Y_E_unite : et_Y := (⟨"EqualTerms", "unite", "()I"⟩, prog_1_method_8_code, 5, (some .int), [])
set_option maxRecDepth 100000 in
theorem mV_E_unite : et_MV Y_E_unite := ⟨et_in 504 rfl rfl, et_in 52 (by decide +kernel) (by decide +kernel), et_in 502 (by decide +kernel) (by decide +kernel), et_in 503 (by decide +kernel) (by decide +kernel), by decide, by decide, by decide⟩
abbrev Y_E_demandEquation : et_Y := (⟨"EqualTerms", "demandEquation", "()V"⟩, prog_1_method_18_code, 1, none, [])
set_option maxRecDepth 100000 in
theorem mV_E_demandEquation : et_MV Y_E_demandEquation := ⟨et_in 508 rfl rfl, et_in 52 (by decide +kernel) (by decide +kernel), et_in 507 (by decide +kernel) (by decide +kernel), et_in 9 (by decide +kernel) (by decide +kernel), by decide, by decide, by decide⟩
abbrev Y_T_isEquation : et_Y := (⟨"EqualTerms$Text", "isEquation", "()Z"⟩, prog_7_method_7_code, 1, (some .boolean), [])
set_option maxRecDepth 100000 in
theorem mV_T_isEquation : et_MV Y_T_isEquation := ⟨et_in 512 rfl rfl, et_in 53 (by decide +kernel) (by decide +kernel), et_in 510 (by decide +kernel) (by decide +kernel), et_in 511 (by decide +kernel) (by decide +kernel), by decide, by decide, by decide⟩
abbrev Y_G_join : et_Y := (⟨"EqualTerms$Graph", "join", "(II)Z"⟩, prog_3_method_8_code, 6, (some .boolean), [])
set_option maxRecDepth 100000 in
theorem mV_G_join : et_MV Y_G_join := ⟨et_in 518 rfl rfl, et_in 54 (by decide +kernel) (by decide +kernel), et_in 516 (by decide +kernel) (by decide +kernel), et_in 517 (by decide +kernel) (by decide +kernel), by decide, by decide, by decide⟩
abbrev Y_G_settle : et_Y := (⟨"EqualTerms$Graph", "settle", "()V"⟩, prog_3_method_9_code, 2, none, [])
set_option maxRecDepth 100000 in
theorem mV_G_settle : et_MV Y_G_settle := ⟨et_in 522 rfl rfl, et_in 54 (by decide +kernel) (by decide +kernel), et_in 520 (by decide +kernel) (by decide +kernel), et_in 521 (by decide +kernel) (by decide +kernel), by decide, by decide, by decide⟩
abbrev Y_G_rename : et_Y := (⟨"EqualTerms$Graph", "rename", "()V"⟩, prog_3_method_10_code, 2, none, [])
set_option maxRecDepth 100000 in
theorem mV_G_rename : et_MV Y_G_rename := ⟨et_in 526 rfl rfl, et_in 54 (by decide +kernel) (by decide +kernel), et_in 525 (by decide +kernel) (by decide +kernel), et_in 10 (by decide +kernel) (by decide +kernel), by decide, by decide, by decide⟩
abbrev Y_G_mergeTwins : et_Y := (⟨"EqualTerms$Graph", "mergeTwins", "()Z"⟩, prog_3_method_11_code, 4, (some .boolean), [])
set_option maxRecDepth 100000 in
theorem mV_G_mergeTwins : et_MV Y_G_mergeTwins := ⟨et_in 530 rfl rfl, et_in 54 (by decide +kernel) (by decide +kernel), et_in 529 (by decide +kernel) (by decide +kernel), et_in 11 (by decide +kernel) (by decide +kernel), by decide, by decide, by decide⟩
abbrev Y_G_renumber : et_Y := (⟨"EqualTerms$Graph", "renumber", "()V"⟩, prog_3_method_12_code, 3, none, [])
set_option maxRecDepth 100000 in
theorem mV_G_renumber : et_MV Y_G_renumber := ⟨et_in 535 rfl rfl, et_in 54 (by decide +kernel) (by decide +kernel), et_in 534 (by decide +kernel) (by decide +kernel), et_in 12 (by decide +kernel) (by decide +kernel), by decide, by decide, by decide⟩
abbrev Y_L_same : et_Y := (⟨"EqualTermsLaw", "same", "(LEqualTerms;[J)I"⟩, method_6_code, 3, (some .int), [(0, 8, 11, 13)])
set_option maxRecDepth 100000 in
theorem mS_L_same : et_MS Y_L_same := ⟨et_in 540 rfl rfl, et_in 51 (by decide +kernel) (by decide +kernel), et_in 539 (by decide +kernel) (by decide +kernel), by decide, by decide, by decide⟩
abbrev Y_E_same : et_Y := (⟨"EqualTerms", "same", "()I"⟩, prog_1_method_9_code, 3, (some .int), [])
set_option maxRecDepth 100000 in
theorem mV_E_same : et_MV Y_E_same := ⟨et_in 544 rfl rfl, et_in 52 (by decide +kernel) (by decide +kernel), et_in 542 (by decide +kernel) (by decide +kernel), et_in 543 (by decide +kernel) (by decide +kernel), by decide, by decide, by decide⟩
abbrev Y_L_price : et_Y := (⟨"EqualTermsLaw", "price", "(LEqualTerms;II)I"⟩, method_7_code, 4, (some .int), [(0, 6, 9, 13)])
set_option maxRecDepth 100000 in
theorem mS_L_price : et_MS Y_L_price := ⟨et_in 547 rfl rfl, et_in 51 (by decide +kernel) (by decide +kernel), et_in 546 (by decide +kernel) (by decide +kernel), by decide, by decide, by decide⟩
abbrev Y_E_price : et_Y := (⟨"EqualTerms", "price", "(II)V"⟩, prog_1_method_10_code, 3, none, [])
set_option maxRecDepth 100000 in
theorem mV_E_price : et_MV Y_E_price := ⟨et_in 551 rfl rfl, et_in 52 (by decide +kernel) (by decide +kernel), et_in 549 (by decide +kernel) (by decide +kernel), et_in 550 (by decide +kernel) (by decide +kernel), by decide, by decide, by decide⟩
abbrev Y_L_rounds : et_Y := (⟨"EqualTermsLaw", "rounds", "(LEqualTerms;I[J)I"⟩, method_8_code, 4, (some .int), [(0, 9, 12, 13)])
set_option maxRecDepth 100000 in
theorem mS_L_rounds : et_MS Y_L_rounds := ⟨et_in 558 rfl rfl, et_in 51 (by decide +kernel) (by decide +kernel), et_in 557 (by decide +kernel) (by decide +kernel), by decide, by decide, by decide⟩
abbrev Y_E_rounds : et_Y := (⟨"EqualTerms", "rounds", "(I)I"⟩, prog_1_method_11_code, 4, (some .int), [])
set_option maxRecDepth 100000 in
theorem mV_E_rounds : et_MV Y_E_rounds := ⟨et_in 562 rfl rfl, et_in 52 (by decide +kernel) (by decide +kernel), et_in 560 (by decide +kernel) (by decide +kernel), et_in 561 (by decide +kernel) (by decide +kernel), by decide, by decide, by decide⟩
abbrev Y_R_fitAll : et_Y := (⟨"EqualTerms$Round", "fitAll", "([LEqualTerms$Rule;I)Z"⟩, prog_4_method_2_code, 7, (some .boolean), [])
set_option maxRecDepth 100000 in
theorem mV_R_fitAll : et_MV Y_R_fitAll := ⟨et_in 567 rfl rfl, et_in 56 (by decide +kernel) (by decide +kernel), et_in 565 (by decide +kernel) (by decide +kernel), et_in 566 (by decide +kernel) (by decide +kernel), by decide, by decide, by decide⟩
abbrev Y_R_listNodes : et_Y := (⟨"EqualTerms$Round", "listNodes", "()V"⟩, prog_4_method_3_code, 4, none, [])
set_option maxRecDepth 100000 in
theorem mV_R_listNodes : et_MV Y_R_listNodes := ⟨et_in 571 rfl rfl, et_in 56 (by decide +kernel) (by decide +kernel), et_in 570 (by decide +kernel) (by decide +kernel), et_in 13 (by decide +kernel) (by decide +kernel), by decide, by decide, by decide⟩
abbrev Y_R_fitFrom : et_Y := (⟨"EqualTerms$Round", "fitFrom", "(LEqualTerms$Rule;I)Z"⟩, prog_4_method_4_code, 6, (some .boolean), [])
set_option maxRecDepth 100000 in
theorem mV_R_fitFrom : et_MV Y_R_fitFrom := ⟨et_in 575 rfl rfl, et_in 56 (by decide +kernel) (by decide +kernel), et_in 574 (by decide +kernel) (by decide +kernel), et_in 14 (by decide +kernel) (by decide +kernel), by decide, by decide, by decide⟩
abbrev Y_R_joinSides : et_Y := (⟨"EqualTerms$Round", "joinSides", "(LEqualTerms$Rule;)Z"⟩, prog_4_method_6_code, 3, (some .boolean), [])
set_option maxRecDepth 100000 in
theorem mV_R_joinSides : et_MV Y_R_joinSides := ⟨et_in 579 rfl rfl, et_in 56 (by decide +kernel) (by decide +kernel), et_in 578 (by decide +kernel) (by decide +kernel), et_in 15 (by decide +kernel) (by decide +kernel), by decide, by decide, by decide⟩
abbrev Y_R_seatParts : et_Y := (⟨"EqualTerms$Round", "seatParts", "(LEqualTerms$Rule;II)V"⟩, prog_4_method_5_code, 5, none, [])
set_option maxRecDepth 100000 in
theorem mV_R_seatParts : et_MV Y_R_seatParts := ⟨et_in 586 rfl rfl, et_in 56 (by decide +kernel) (by decide +kernel), et_in 585 (by decide +kernel) (by decide +kernel), et_in 16 (by decide +kernel) (by decide +kernel), by decide, by decide, by decide⟩
abbrev Y_L_members : et_Y := (⟨"EqualTermsLaw", "members", "(LEqualTerms;[J)I"⟩, method_9_code, 3, (some .int), [(0, 8, 11, 13)])
set_option maxRecDepth 100000 in
theorem mS_L_members : et_MS Y_L_members := ⟨et_in 592 rfl rfl, et_in 51 (by decide +kernel) (by decide +kernel), et_in 591 (by decide +kernel) (by decide +kernel), by decide, by decide, by decide⟩
abbrev Y_E_members : et_Y := (⟨"EqualTerms", "members", "()I"⟩, prog_1_method_14_code, 2, (some .int), [])
set_option maxRecDepth 100000 in
theorem mV_E_members : et_MV Y_E_members := ⟨et_in 596 rfl rfl, et_in 52 (by decide +kernel) (by decide +kernel), et_in 594 (by decide +kernel) (by decide +kernel), et_in 595 (by decide +kernel) (by decide +kernel), by decide, by decide, by decide⟩
abbrev Y_E_takeTerm : et_Y := (⟨"EqualTerms", "takeTerm", "()I"⟩, prog_1_method_19_code, 2, (some .int), [])
set_option maxRecDepth 100000 in
theorem mV_E_takeTerm : et_MV Y_E_takeTerm := ⟨et_in 600 rfl rfl, et_in 52 (by decide +kernel) (by decide +kernel), et_in 599 (by decide +kernel) (by decide +kernel), et_in 17 (by decide +kernel) (by decide +kernel), by decide, by decide, by decide⟩
abbrev Y_G_sizeOf : et_Y := (⟨"EqualTerms$Graph", "sizeOf", "(I)I"⟩, prog_3_method_5_code, 4, (some .int), [])
set_option maxRecDepth 100000 in
theorem mV_G_sizeOf : et_MV Y_G_sizeOf := ⟨et_in 604 rfl rfl, et_in 54 (by decide +kernel) (by decide +kernel), et_in 602 (by decide +kernel) (by decide +kernel), et_in 603 (by decide +kernel) (by decide +kernel), by decide, by decide, by decide⟩
abbrev Y_L_cost : et_Y := (⟨"EqualTermsLaw", "cost", "(LEqualTerms;[J)I"⟩, method_10_code, 3, (some .int), [(0, 7, 10, 13)])
set_option maxRecDepth 100000 in
theorem mS_L_cost : et_MS Y_L_cost := ⟨et_in 607 rfl rfl, et_in 51 (by decide +kernel) (by decide +kernel), et_in 606 (by decide +kernel) (by decide +kernel), by decide, by decide, by decide⟩
abbrev Y_E_cost : et_Y := (⟨"EqualTerms", "cost", "()J"⟩, prog_1_method_15_code, 2, (some .long), [])
set_option maxRecDepth 100000 in
theorem mV_E_cost : et_MV Y_E_cost := ⟨et_in 611 rfl rfl, et_in 52 (by decide +kernel) (by decide +kernel), et_in 609 (by decide +kernel) (by decide +kernel), et_in 610 (by decide +kernel) (by decide +kernel), by decide, by decide, by decide⟩
abbrev Y_C_weigh : et_Y := (⟨"EqualTerms$Cheapest", "weigh", "()V"⟩, prog_2_method_2_code, 4, none, [])
set_option maxRecDepth 100000 in
theorem mV_C_weigh : et_MV Y_C_weigh := ⟨et_in 616 rfl rfl, et_in 57 (by decide +kernel) (by decide +kernel), et_in 614 (by decide +kernel) (by decide +kernel), et_in 615 (by decide +kernel) (by decide +kernel), by decide, by decide, by decide⟩
abbrev Y_A_fill_JJ : et_Y := (⟨"java/util/Arrays", "fill", "([JJ)V"⟩, prog_20_method_101_code, 5, none, [])
set_option maxRecDepth 100000 in
theorem mS_A_fill_JJ : et_MS Y_A_fill_JJ := ⟨et_in 620 rfl rfl, et_in 58 (by decide +kernel) (by decide +kernel), et_in 619 (by decide +kernel) (by decide +kernel), by decide, by decide, by decide⟩
abbrev Y_C_weighNode : et_Y := (⟨"EqualTerms$Cheapest", "weighNode", "(I)Z"⟩, prog_2_method_3_code, 7, (some .boolean), [])
set_option maxRecDepth 100000 in
theorem mV_C_weighNode : et_MV Y_C_weighNode := ⟨et_in 624 rfl rfl, et_in 57 (by decide +kernel) (by decide +kernel), et_in 623 (by decide +kernel) (by decide +kernel), et_in 18 (by decide +kernel) (by decide +kernel), by decide, by decide, by decide⟩
abbrev Y_C_costThrough : et_Y := (⟨"EqualTerms$Cheapest", "costThrough", "(I)J"⟩, prog_2_method_4_code, 4, (some .long), [])
set_option maxRecDepth 100000 in
theorem mV_C_costThrough : et_MV Y_C_costThrough := ⟨et_in 628 rfl rfl, et_in 57 (by decide +kernel) (by decide +kernel), et_in 627 (by decide +kernel) (by decide +kernel), et_in 19 (by decide +kernel) (by decide +kernel), by decide, by decide, by decide⟩
abbrev Y_C_sum : et_Y := (⟨"EqualTerms$Cheapest", "sum", "(JJ)J"⟩, prog_2_method_5_code, 4, (some .long), [])
set_option maxRecDepth 100000 in
theorem mS_C_sum : et_MS Y_C_sum := ⟨et_in 631 rfl rfl, et_in 57 (by decide +kernel) (by decide +kernel), et_in 630 (by decide +kernel) (by decide +kernel), by decide, by decide, by decide⟩
abbrev Y_C_lengthThrough : et_Y := (⟨"EqualTerms$Cheapest", "lengthThrough", "(I)J"⟩, prog_2_method_6_code, 4, (some .long), [])
set_option maxRecDepth 100000 in
theorem mV_C_lengthThrough : et_MV Y_C_lengthThrough := ⟨et_in 636 rfl rfl, et_in 57 (by decide +kernel) (by decide +kernel), et_in 635 (by decide +kernel) (by decide +kernel), et_in 20 (by decide +kernel) (by decide +kernel), by decide, by decide, by decide⟩
abbrev Y_L_best : et_Y := (⟨"EqualTermsLaw", "best", "(LEqualTerms;[J)I"⟩, method_11_code, 3, (some .int), [(0, 8, 11, 13)])
set_option maxRecDepth 100000 in
theorem mS_L_best : et_MS Y_L_best := ⟨et_in 641 rfl rfl, et_in 51 (by decide +kernel) (by decide +kernel), et_in 640 (by decide +kernel) (by decide +kernel), by decide, by decide, by decide⟩
abbrev Y_E_best : et_Y := (⟨"EqualTerms", "best", "()I"⟩, prog_1_method_16_code, 3, (some .int), [])
set_option maxRecDepth 100000 in
theorem mV_E_best : et_MV Y_E_best := ⟨et_in 645 rfl rfl, et_in 52 (by decide +kernel) (by decide +kernel), et_in 643 (by decide +kernel) (by decide +kernel), et_in 644 (by decide +kernel) (by decide +kernel), by decide, by decide, by decide⟩
abbrev Y_C_spell : et_Y := (⟨"EqualTerms$Cheapest", "spell", "(I)V"⟩, prog_2_method_7_code, 4, none, [])
set_option maxRecDepth 100000 in
theorem mV_C_spell : et_MV Y_C_spell := ⟨et_in 650 rfl rfl, et_in 57 (by decide +kernel) (by decide +kernel), et_in 648 (by decide +kernel) (by decide +kernel), et_in 649 (by decide +kernel) (by decide +kernel), by decide, by decide, by decide⟩
abbrev Y_C_isBest : et_Y := (⟨"EqualTerms$Cheapest", "isBest", "(I)Z"⟩, prog_2_method_8_code, 3, (some .boolean), [])
set_option maxRecDepth 100000 in
theorem mV_C_isBest : et_MV Y_C_isBest := ⟨et_in 654 rfl rfl, et_in 57 (by decide +kernel) (by decide +kernel), et_in 653 (by decide +kernel) (by decide +kernel), et_in 21 (by decide +kernel) (by decide +kernel), by decide, by decide, by decide⟩
abbrev Y_C_spellNode : et_Y := (⟨"EqualTerms$Cheapest", "spellNode", "(II)V"⟩, prog_2_method_9_code, 5, none, [])
set_option maxRecDepth 100000 in
theorem mV_C_spellNode : et_MV Y_C_spellNode := ⟨et_in 658 rfl rfl, et_in 57 (by decide +kernel) (by decide +kernel), et_in 657 (by decide +kernel) (by decide +kernel), et_in 22 (by decide +kernel) (by decide +kernel), by decide, by decide, by decide⟩
abbrev Y_C_appendTerm : et_Y := (⟨"EqualTerms$Cheapest", "appendTerm", "(II)I"⟩, prog_2_method_10_code, 4, (some .int), [])
set_option maxRecDepth 100000 in
theorem mV_C_appendTerm : et_MV Y_C_appendTerm := ⟨et_in 662 rfl rfl, et_in 57 (by decide +kernel) (by decide +kernel), et_in 661 (by decide +kernel) (by decide +kernel), et_in 23 (by decide +kernel) (by decide +kernel), by decide, by decide, by decide⟩
abbrev Y_C_trialComesBefore : et_Y := (⟨"EqualTerms$Cheapest", "trialComesBefore", "([II)Z"⟩, prog_2_method_11_code, 4, (some .boolean), [])
set_option maxRecDepth 100000 in
theorem mV_C_trialComesBefore : et_MV Y_C_trialComesBefore := ⟨et_in 667 rfl rfl, et_in 57 (by decide +kernel) (by decide +kernel), et_in 666 (by decide +kernel) (by decide +kernel), et_in 24 (by decide +kernel) (by decide +kernel), by decide, by decide, by decide⟩
abbrev Y_T_become : et_Y := (⟨"EqualTerms$Text", "become", "([II)V"⟩, prog_7_method_5_code, 3, none, [])
set_option maxRecDepth 100000 in
theorem mV_T_become : et_MV Y_T_become := ⟨et_in 671 rfl rfl, et_in 53 (by decide +kernel) (by decide +kernel), et_in 669 (by decide +kernel) (by decide +kernel), et_in 670 (by decide +kernel) (by decide +kernel), by decide, by decide, by decide⟩
abbrev Y_M_init : et_Y := (⟨"EqualTermsModel", "<init>", "()V"⟩, prog_10_method_1_code, 2, none, [])
set_option maxRecDepth 100000 in
theorem mI_M_init : et_MI Y_M_init := ⟨et_in 677 rfl rfl, et_in 59 (by decide +kernel) (by decide +kernel), et_in 676 (by decide +kernel) (by decide +kernel), by decide, by decide, by decide, rfl, rfl, rfl⟩
abbrev Y_M_thrown : et_Y := (⟨"EqualTermsModel", "thrown", "()I"⟩, prog_10_method_2_code, 1, (some .int), [])
set_option maxRecDepth 100000 in
theorem mV_M_thrown : et_MV Y_M_thrown := ⟨et_in 781 rfl rfl, et_in 59 (by decide +kernel) (by decide +kernel), et_in 779 (by decide +kernel) (by decide +kernel), et_in 780 (by decide +kernel) (by decide +kernel), by decide, by decide, by decide⟩
abbrev Y_M_type : et_Y := (⟨"EqualTermsModel", "type", "(JI)I"⟩, prog_10_method_6_code, 7, (some .int), [])
set_option maxRecDepth 100000 in
theorem mV_M_type : et_MV Y_M_type := ⟨et_in 785 rfl rfl, et_in 59 (by decide +kernel) (by decide +kernel), et_in 783 (by decide +kernel) (by decide +kernel), et_in 784 (by decide +kernel) (by decide +kernel), by decide, by decide, by decide⟩
abbrev Y_M_within : et_Y := (⟨"EqualTermsModel", "within", "(III)Z"⟩, prog_10_method_4_code, 3, (some .boolean), [])
set_option maxRecDepth 100000 in
theorem mS_M_within : et_MS Y_M_within := ⟨et_in 788 rfl rfl, et_in 59 (by decide +kernel) (by decide +kernel), et_in 787 (by decide +kernel) (by decide +kernel), by decide, by decide, by decide⟩
abbrev Y_M_wipe : et_Y := (⟨"EqualTermsModel", "wipe", "()I"⟩, prog_10_method_7_code, 2, (some .int), [])
set_option maxRecDepth 100000 in
theorem mV_M_wipe : et_MV Y_M_wipe := ⟨et_in 795 rfl rfl, et_in 59 (by decide +kernel) (by decide +kernel), et_in 793 (by decide +kernel) (by decide +kernel), et_in 794 (by decide +kernel) (by decide +kernel), by decide, by decide, by decide⟩
abbrev Y_M_character : et_Y := (⟨"EqualTermsModel", "character", "(I)I"⟩, prog_10_method_8_code, 2, (some .int), [])
set_option maxRecDepth 100000 in
theorem mV_M_character : et_MV Y_M_character := ⟨et_in 799 rfl rfl, et_in 59 (by decide +kernel) (by decide +kernel), et_in 797 (by decide +kernel) (by decide +kernel), et_in 798 (by decide +kernel) (by decide +kernel), by decide, by decide, by decide⟩
abbrev Y_M_place : et_Y := (⟨"EqualTermsModel", "place", "()I"⟩, prog_10_method_9_code, 1, (some .int), [])
set_option maxRecDepth 100000 in
theorem mV_M_place : et_MV Y_M_place := ⟨et_in 803 rfl rfl, et_in 59 (by decide +kernel) (by decide +kernel), et_in 801 (by decide +kernel) (by decide +kernel), et_in 802 (by decide +kernel) (by decide +kernel), by decide, by decide, by decide⟩
abbrev Y_M_rule : et_Y := (⟨"EqualTermsModel", "rule", "()I"⟩, prog_10_method_14_code, 3, (some .int), [])
set_option maxRecDepth 100000 in
theorem mV_M_rule : et_MV Y_M_rule := ⟨et_in 807 rfl rfl, et_in 59 (by decide +kernel) (by decide +kernel), et_in 805 (by decide +kernel) (by decide +kernel), et_in 806 (by decide +kernel) (by decide +kernel), by decide, by decide, by decide⟩
abbrev Y_M_readBoth : et_Y := (⟨"EqualTermsModel", "readBoth", "(IZ)I"⟩, prog_10_method_13_code, 4, (some .int), [])
set_option maxRecDepth 100000 in
theorem mV_M_readBoth : et_MV Y_M_readBoth := ⟨et_in 811 rfl rfl, et_in 59 (by decide +kernel) (by decide +kernel), et_in 810 (by decide +kernel) (by decide +kernel), et_in 25 (by decide +kernel) (by decide +kernel), by decide, by decide, by decide⟩
abbrev Y_M_readSide : et_Y := (⟨"EqualTermsModel", "readSide", "(II)Z"⟩, prog_10_method_11_code, 6, (some .boolean), [])
set_option maxRecDepth 100000 in
theorem mV_M_readSide : et_MV Y_M_readSide := ⟨et_in 815 rfl rfl, et_in 59 (by decide +kernel) (by decide +kernel), et_in 814 (by decide +kernel) (by decide +kernel), et_in 26 (by decide +kernel) (by decide +kernel), by decide, by decide, by decide⟩
abbrev Y_M_fail : et_Y := (⟨"EqualTermsModel", "fail", "()Z"⟩, prog_10_method_10_code, 1, (some .boolean), [])
set_option maxRecDepth 100000 in
theorem mV_M_fail : et_MV Y_M_fail := ⟨et_in 819 rfl rfl, et_in 59 (by decide +kernel) (by decide +kernel), et_in 818 (by decide +kernel) (by decide +kernel), et_in 27 (by decide +kernel) (by decide +kernel), by decide, by decide, by decide⟩
abbrev Y_M_takes : et_Y := (⟨"EqualTermsModel", "takes", "(I)I"⟩, prog_10_method_5_code, 1, (some .int), [])
set_option maxRecDepth 100000 in
theorem mS_M_takes : et_MS Y_M_takes := ⟨et_in 822 rfl rfl, et_in 59 (by decide +kernel) (by decide +kernel), et_in 821 (by decide +kernel) (by decide +kernel), by decide, by decide, by decide⟩
abbrev Y_M_refuse : et_Y := (⟨"EqualTermsModel", "refuse", "(I)I"⟩, prog_10_method_3_code, 2, (some .int), [])
set_option maxRecDepth 100000 in
theorem mV_M_refuse : et_MV Y_M_refuse := ⟨et_in 826 rfl rfl, et_in 59 (by decide +kernel) (by decide +kernel), et_in 825 (by decide +kernel) (by decide +kernel), et_in 28 (by decide +kernel) (by decide +kernel), by decide, by decide, by decide⟩
abbrev Y_M_add : et_Y := (⟨"EqualTermsModel", "add", "()I"⟩, prog_10_method_26_code, 4, (some .int), [])
set_option maxRecDepth 100000 in
theorem mV_M_add : et_MV Y_M_add := ⟨et_in 830 rfl rfl, et_in 59 (by decide +kernel) (by decide +kernel), et_in 828 (by decide +kernel) (by decide +kernel), et_in 829 (by decide +kernel) (by decide +kernel), by decide, by decide, by decide⟩
abbrev Y_M_readTerm : et_Y := (⟨"EqualTermsModel", "readTerm", "()Z"⟩, prog_10_method_12_code, 1, (some .boolean), [])
set_option maxRecDepth 100000 in
theorem mV_M_readTerm : et_MV Y_M_readTerm := ⟨et_in 834 rfl rfl, et_in 59 (by decide +kernel) (by decide +kernel), et_in 833 (by decide +kernel) (by decide +kernel), et_in 29 (by decide +kernel) (by decide +kernel), by decide, by decide, by decide⟩
abbrev Y_M_workText : et_Y := (⟨"EqualTermsModel", "workText", "(III)I"⟩, prog_10_method_18_code, 6, (some .int), [])
set_option maxRecDepth 100000 in
theorem mV_M_workText : et_MV Y_M_workText := ⟨et_in 838 rfl rfl, et_in 59 (by decide +kernel) (by decide +kernel), et_in 837 (by decide +kernel) (by decide +kernel), et_in 30 (by decide +kernel) (by decide +kernel), by decide, by decide, by decide⟩
abbrev Y_M_push : et_Y := (⟨"EqualTermsModel", "push", "(II)Z"⟩, prog_10_method_17_code, 7, (some .boolean), [])
set_option maxRecDepth 100000 in
theorem mV_M_push : et_MV Y_M_push := ⟨et_in 842 rfl rfl, et_in 59 (by decide +kernel) (by decide +kernel), et_in 841 (by decide +kernel) (by decide +kernel), et_in 31 (by decide +kernel) (by decide +kernel), by decide, by decide, by decide⟩
abbrev Y_M_classOf : et_Y := (⟨"EqualTermsModel", "classOf", "(IIII)I"⟩, prog_10_method_16_code, 6, (some .int), [])
set_option maxRecDepth 100000 in
theorem mV_M_classOf : et_MV Y_M_classOf := ⟨et_in 846 rfl rfl, et_in 59 (by decide +kernel) (by decide +kernel), et_in 845 (by decide +kernel) (by decide +kernel), et_in 32 (by decide +kernel) (by decide +kernel), by decide, by decide, by decide⟩
abbrev Y_M_findNode : et_Y := (⟨"EqualTermsModel", "findNode", "(III)I"⟩, prog_10_method_15_code, 5, (some .int), [])
set_option maxRecDepth 100000 in
theorem mV_M_findNode : et_MV Y_M_findNode := ⟨et_in 850 rfl rfl, et_in 59 (by decide +kernel) (by decide +kernel), et_in 849 (by decide +kernel) (by decide +kernel), et_in 33 (by decide +kernel) (by decide +kernel), by decide, by decide, by decide⟩
abbrev Y_M_cut : et_Y := (⟨"EqualTermsModel", "cut", "(II)V"⟩, prog_10_method_25_code, 4, none, [])
set_option maxRecDepth 100000 in
theorem mV_M_cut : et_MV Y_M_cut := ⟨et_in 854 rfl rfl, et_in 59 (by decide +kernel) (by decide +kernel), et_in 853 (by decide +kernel) (by decide +kernel), et_in 34 (by decide +kernel) (by decide +kernel), by decide, by decide, by decide⟩
abbrev Y_M_unite : et_Y := (⟨"EqualTermsModel", "unite", "()I"⟩, prog_10_method_27_code, 6, (some .int), [])
set_option maxRecDepth 100000 in
theorem mV_M_unite : et_MV Y_M_unite := ⟨et_in 858 rfl rfl, et_in 59 (by decide +kernel) (by decide +kernel), et_in 856 (by decide +kernel) (by decide +kernel), et_in 857 (by decide +kernel) (by decide +kernel), by decide, by decide, by decide⟩
abbrev Y_M_joinClasses : et_Y := (⟨"EqualTermsModel", "joinClasses", "(II)V"⟩, prog_10_method_20_code, 6, none, [])
set_option maxRecDepth 100000 in
theorem mV_M_joinClasses : et_MV Y_M_joinClasses := ⟨et_in 862 rfl rfl, et_in 59 (by decide +kernel) (by decide +kernel), et_in 861 (by decide +kernel) (by decide +kernel), et_in 35 (by decide +kernel) (by decide +kernel), by decide, by decide, by decide⟩
abbrev Y_M_close : et_Y := (⟨"EqualTermsModel", "close", "()V"⟩, prog_10_method_23_code, 4, none, [])
set_option maxRecDepth 100000 in
theorem mV_M_close : et_MV Y_M_close := ⟨et_in 866 rfl rfl, et_in 59 (by decide +kernel) (by decide +kernel), et_in 865 (by decide +kernel) (by decide +kernel), et_in 36 (by decide +kernel) (by decide +kernel), by decide, by decide, by decide⟩
abbrev Y_M_labelOf : et_Y := (⟨"EqualTermsModel", "labelOf", "(I)I"⟩, prog_10_method_22_code, 2, (some .int), [])
set_option maxRecDepth 100000 in
theorem mV_M_labelOf : et_MV Y_M_labelOf := ⟨et_in 870 rfl rfl, et_in 59 (by decide +kernel) (by decide +kernel), et_in 869 (by decide +kernel) (by decide +kernel), et_in 37 (by decide +kernel) (by decide +kernel), by decide, by decide, by decide⟩
abbrev Y_M_removeNode : et_Y := (⟨"EqualTermsModel", "removeNode", "(I)V"⟩, prog_10_method_21_code, 3, none, [])
set_option maxRecDepth 100000 in
theorem mV_M_removeNode : et_MV Y_M_removeNode := ⟨et_in 874 rfl rfl, et_in 59 (by decide +kernel) (by decide +kernel), et_in 873 (by decide +kernel) (by decide +kernel), et_in 38 (by decide +kernel) (by decide +kernel), by decide, by decide, by decide⟩
abbrev Y_M_renumber : et_Y := (⟨"EqualTermsModel", "renumber", "()V"⟩, prog_10_method_24_code, 4, none, [])
set_option maxRecDepth 100000 in
theorem mV_M_renumber : et_MV Y_M_renumber := ⟨et_in 878 rfl rfl, et_in 59 (by decide +kernel) (by decide +kernel), et_in 877 (by decide +kernel) (by decide +kernel), et_in 39 (by decide +kernel) (by decide +kernel), by decide, by decide, by decide⟩
abbrev Y_M_same : et_Y := (⟨"EqualTermsModel", "same", "()I"⟩, prog_10_method_28_code, 4, (some .int), [])
set_option maxRecDepth 100000 in
theorem mV_M_same : et_MV Y_M_same := ⟨et_in 882 rfl rfl, et_in 59 (by decide +kernel) (by decide +kernel), et_in 880 (by decide +kernel) (by decide +kernel), et_in 881 (by decide +kernel) (by decide +kernel), by decide, by decide, by decide⟩
abbrev Y_M_price : et_Y := (⟨"EqualTermsModel", "price", "(II)V"⟩, prog_10_method_29_code, 3, none, [])
set_option maxRecDepth 100000 in
theorem mV_M_price : et_MV Y_M_price := ⟨et_in 886 rfl rfl, et_in 59 (by decide +kernel) (by decide +kernel), et_in 884 (by decide +kernel) (by decide +kernel), et_in 885 (by decide +kernel) (by decide +kernel), by decide, by decide, by decide⟩
abbrev Y_M_rounds : et_Y := (⟨"EqualTermsModel", "rounds", "(I)I"⟩, prog_10_method_37_code, 4, (some .int), [])
set_option maxRecDepth 100000 in
theorem mV_M_rounds : et_MV Y_M_rounds := ⟨et_in 891 rfl rfl, et_in 59 (by decide +kernel) (by decide +kernel), et_in 889 (by decide +kernel) (by decide +kernel), et_in 890 (by decide +kernel) (by decide +kernel), by decide, by decide, by decide⟩
abbrev Y_M_oneRound : et_Y := (⟨"EqualTermsModel", "oneRound", "()I"⟩, prog_10_method_36_code, 4, (some .int), [])
set_option maxRecDepth 100000 in
theorem mV_M_oneRound : et_MV Y_M_oneRound := ⟨et_in 895 rfl rfl, et_in 59 (by decide +kernel) (by decide +kernel), et_in 894 (by decide +kernel) (by decide +kernel), et_in 40 (by decide +kernel) (by decide +kernel), by decide, by decide, by decide⟩
abbrev Y_M_fillTables : et_Y := (⟨"EqualTermsModel", "fillTables", "()V"⟩, prog_10_method_31_code, 3, none, [])
set_option maxRecDepth 100000 in
theorem mV_M_fillTables : et_MV Y_M_fillTables := ⟨et_in 899 rfl rfl, et_in 59 (by decide +kernel) (by decide +kernel), et_in 898 (by decide +kernel) (by decide +kernel), et_in 41 (by decide +kernel) (by decide +kernel), by decide, by decide, by decide⟩
abbrev Y_M_kindOf : et_Y := (⟨"EqualTermsModel", "kindOf", "(I)I"⟩, prog_10_method_30_code, 1, (some .int), [])
set_option maxRecDepth 100000 in
theorem mS_M_kindOf : et_MS Y_M_kindOf := ⟨et_in 902 rfl rfl, et_in 59 (by decide +kernel) (by decide +kernel), et_in 901 (by decide +kernel) (by decide +kernel), by decide, by decide, by decide⟩
abbrev Y_M_fit : et_Y := (⟨"EqualTermsModel", "fit", "(II)V"⟩, prog_10_method_35_code, 7, none, [])
set_option maxRecDepth 100000 in
theorem mV_M_fit : et_MV Y_M_fit := ⟨et_in 906 rfl rfl, et_in 59 (by decide +kernel) (by decide +kernel), et_in 905 (by decide +kernel) (by decide +kernel), et_in 42 (by decide +kernel) (by decide +kernel), by decide, by decide, by decide⟩
abbrev Y_M_variablesOf : et_Y := (⟨"EqualTermsModel", "variablesOf", "(I)I"⟩, prog_10_method_33_code, 5, (some .int), [])
set_option maxRecDepth 100000 in
theorem mV_M_variablesOf : et_MV Y_M_variablesOf := ⟨et_in 910 rfl rfl, et_in 59 (by decide +kernel) (by decide +kernel), et_in 909 (by decide +kernel) (by decide +kernel), et_in 43 (by decide +kernel) (by decide +kernel), by decide, by decide, by decide⟩
abbrev Y_M_tabled : et_Y := (⟨"EqualTermsModel", "tabled", "(I)I"⟩, prog_10_method_32_code, 7, (some .int), [])
set_option maxRecDepth 100000 in
theorem mV_M_tabled : et_MV Y_M_tabled := ⟨et_in 914 rfl rfl, et_in 59 (by decide +kernel) (by decide +kernel), et_in 913 (by decide +kernel) (by decide +kernel), et_in 44 (by decide +kernel) (by decide +kernel), by decide, by decide, by decide⟩
abbrev Y_M_workSide : et_Y := (⟨"EqualTermsModel", "workSide", "(II)I"⟩, prog_10_method_19_code, 5, (some .int), [])
set_option maxRecDepth 100000 in
theorem mV_M_workSide : et_MV Y_M_workSide := ⟨et_in 918 rfl rfl, et_in 59 (by decide +kernel) (by decide +kernel), et_in 917 (by decide +kernel) (by decide +kernel), et_in 45 (by decide +kernel) (by decide +kernel), by decide, by decide, by decide⟩
abbrev Y_M_nextChoice : et_Y := (⟨"EqualTermsModel", "nextChoice", "(II)Z"⟩, prog_10_method_34_code, 4, (some .boolean), [])
set_option maxRecDepth 100000 in
theorem mV_M_nextChoice : et_MV Y_M_nextChoice := ⟨et_in 922 rfl rfl, et_in 59 (by decide +kernel) (by decide +kernel), et_in 921 (by decide +kernel) (by decide +kernel), et_in 46 (by decide +kernel) (by decide +kernel), by decide, by decide, by decide⟩
abbrev Y_M_nodes : et_Y := (⟨"EqualTermsModel", "nodes", "()I"⟩, prog_10_method_38_code, 1, (some .int), [])
set_option maxRecDepth 100000 in
theorem mV_M_nodes : et_MV Y_M_nodes := ⟨et_in 926 rfl rfl, et_in 59 (by decide +kernel) (by decide +kernel), et_in 924 (by decide +kernel) (by decide +kernel), et_in 925 (by decide +kernel) (by decide +kernel), by decide, by decide, by decide⟩
abbrev Y_M_classes : et_Y := (⟨"EqualTermsModel", "classes", "()I"⟩, prog_10_method_39_code, 1, (some .int), [])
set_option maxRecDepth 100000 in
theorem mV_M_classes : et_MV Y_M_classes := ⟨et_in 930 rfl rfl, et_in 59 (by decide +kernel) (by decide +kernel), et_in 928 (by decide +kernel) (by decide +kernel), et_in 929 (by decide +kernel) (by decide +kernel), by decide, by decide, by decide⟩
abbrev Y_M_members : et_Y := (⟨"EqualTermsModel", "members", "()I"⟩, prog_10_method_41_code, 4, (some .int), [])
set_option maxRecDepth 100000 in
theorem mV_M_members : et_MV Y_M_members := ⟨et_in 934 rfl rfl, et_in 59 (by decide +kernel) (by decide +kernel), et_in 932 (by decide +kernel) (by decide +kernel), et_in 933 (by decide +kernel) (by decide +kernel), by decide, by decide, by decide⟩
abbrev Y_M_asked : et_Y := (⟨"EqualTermsModel", "asked", "()I"⟩, prog_10_method_40_code, 2, (some .int), [])
set_option maxRecDepth 100000 in
theorem mV_M_asked : et_MV Y_M_asked := ⟨et_in 938 rfl rfl, et_in 59 (by decide +kernel) (by decide +kernel), et_in 937 (by decide +kernel) (by decide +kernel), et_in 47 (by decide +kernel) (by decide +kernel), by decide, by decide, by decide⟩
abbrev Y_M_cost : et_Y := (⟨"EqualTermsModel", "cost", "()J"⟩, prog_10_method_46_code, 2, (some .long), [])
set_option maxRecDepth 100000 in
theorem mV_M_cost : et_MV Y_M_cost := ⟨et_in 942 rfl rfl, et_in 59 (by decide +kernel) (by decide +kernel), et_in 940 (by decide +kernel) (by decide +kernel), et_in 941 (by decide +kernel) (by decide +kernel), by decide, by decide, by decide⟩
abbrev Y_M_findBest : et_Y := (⟨"EqualTermsModel", "findBest", "()V"⟩, prog_10_method_45_code, 5, none, [])
set_option maxRecDepth 100000 in
theorem mV_M_findBest : et_MV Y_M_findBest := ⟨et_in 947 rfl rfl, et_in 59 (by decide +kernel) (by decide +kernel), et_in 946 (by decide +kernel) (by decide +kernel), et_in 48 (by decide +kernel) (by decide +kernel), by decide, by decide, by decide⟩
abbrev Y_M_append : et_Y := (⟨"EqualTermsModel", "append", "(I)V"⟩, prog_10_method_43_code, 3, none, [])
set_option maxRecDepth 100000 in
theorem mV_M_append : et_MV Y_M_append := ⟨et_in 952 rfl rfl, et_in 59 (by decide +kernel) (by decide +kernel), et_in 951 (by decide +kernel) (by decide +kernel), et_in 49 (by decide +kernel) (by decide +kernel), by decide, by decide, by decide⟩
abbrev Y_M_sum : et_Y := (⟨"EqualTermsModel", "sum", "(JJ)J"⟩, prog_10_method_42_code, 4, (some .long), [])
set_option maxRecDepth 100000 in
theorem mS_M_sum : et_MS Y_M_sum := ⟨et_in 955 rfl rfl, et_in 59 (by decide +kernel) (by decide +kernel), et_in 954 (by decide +kernel) (by decide +kernel), by decide, by decide, by decide⟩
abbrev Y_M_isBetter : et_Y := (⟨"EqualTermsModel", "isBetter", "(I)Z"⟩, prog_10_method_44_code, 3, (some .boolean), [])
set_option maxRecDepth 100000 in
theorem mV_M_isBetter : et_MV Y_M_isBetter := ⟨et_in 961 rfl rfl, et_in 59 (by decide +kernel) (by decide +kernel), et_in 960 (by decide +kernel) (by decide +kernel), et_in 50 (by decide +kernel) (by decide +kernel), by decide, by decide, by decide⟩
abbrev Y_M_best : et_Y := (⟨"EqualTermsModel", "best", "()I"⟩, prog_10_method_47_code, 3, (some .int), [])
set_option maxRecDepth 100000 in
theorem mV_M_best : et_MV Y_M_best := ⟨et_in 966 rfl rfl, et_in 59 (by decide +kernel) (by decide +kernel), et_in 964 (by decide +kernel) (by decide +kernel), et_in 965 (by decide +kernel) (by decide +kernel), by decide, by decide, by decide⟩
theorem ini_L : Cond.initialized "EqualTermsLaw" ∈ et_W := et_in 51 (by decide +kernel) (by decide +kernel)
theorem ini_E : Cond.initialized "EqualTerms" ∈ et_W := et_in 52 (by decide +kernel) (by decide +kernel)
theorem ini_T : Cond.initialized "EqualTerms$Text" ∈ et_W := et_in 53 (by decide +kernel) (by decide +kernel)
theorem ini_G : Cond.initialized "EqualTerms$Graph" ∈ et_W := et_in 54 (by decide +kernel) (by decide +kernel)
theorem ini_K : Cond.initialized "EqualTerms$Walk" ∈ et_W := et_in 55 (by decide +kernel) (by decide +kernel)
theorem ini_R : Cond.initialized "EqualTerms$Round" ∈ et_W := et_in 56 (by decide +kernel) (by decide +kernel)
theorem ini_C : Cond.initialized "EqualTerms$Cheapest" ∈ et_W := et_in 57 (by decide +kernel) (by decide +kernel)
theorem ini_A : Cond.initialized "java/util/Arrays" ∈ et_W := et_in 58 (by decide +kernel) (by decide +kernel)
theorem ini_M : Cond.initialized "EqualTermsModel" ∈ et_W := et_in 59 (by decide +kernel) (by decide +kernel)
theorem ini_S : Cond.initialized "EqualTerms$Signs" ∈ et_W := et_in 60 (by decide +kernel) (by decide +kernel)
theorem ini_Throwable : Cond.initialized "java/lang/Throwable" ∈ et_W := et_in 61 (by decide +kernel) (by decide +kernel)
theorem ini_Exception : Cond.initialized "java/lang/Exception" ∈ et_W := et_in 62 (by decide +kernel) (by decide +kernel)
theorem ini_RuntimeException : Cond.initialized "java/lang/RuntimeException" ∈ et_W := et_in 63 (by decide +kernel) (by decide +kernel)
theorem ini_IllegalArgumentException : Cond.initialized "java/lang/IllegalArgumentException" ∈ et_W := et_in 64 (by decide +kernel) (by decide +kernel)
theorem ini_IllegalStateException : Cond.initialized "java/lang/IllegalStateException" ∈ et_W := et_in 65 (by decide +kernel) (by decide +kernel)
theorem ini_U : Cond.initialized "EqualTerms$Rule" ∈ et_W := et_in 66 (by decide +kernel) (by decide +kernel)
theorem ini_H : Cond.initialized "java/lang/Math" ∈ et_W := et_in 67 (by decide +kernel) (by decide +kernel)
theorem ini_System : Cond.initialized "java/lang/System" ∈ et_W := et_in 68 (by decide +kernel) (by decide +kernel)
theorem cl_L_8 : Cond.classLink "EqualTermsLaw" 8 "EqualTerms" ∈ et_W := et_in 69 (by decide +kernel) (by decide +kernel)
theorem ins_E : Cond.instantiable "EqualTerms" 7 ∈ et_W := et_in 70 (by decide +kernel) (by decide +kernel)
theorem lk_L_44 : et_lk "EqualTermsLaw" 44 (Y_E_init).1 := Or.inl (et_in 71 (by decide +kernel) (by decide +kernel))
theorem lk_E_1 : et_lk "EqualTerms" 1 (Y_O_init).1 := Or.inl (et_in 74 (by decide +kernel) (by decide +kernel))
theorem cl_E_7 : Cond.classLink "EqualTerms" 7 "EqualTerms$Text" ∈ et_W := et_in 77 (by decide +kernel) (by decide +kernel)
theorem ins_T : Cond.instantiable "EqualTerms$Text" 4 ∈ et_W := et_in 78 (by decide +kernel) (by decide +kernel)
theorem lk_E_9 : et_lk "EqualTerms" 9 (Y_T_init).1 := Or.inr ⟨"EqualTerms", by decide +kernel⟩
theorem lk_T_3 : et_lk "EqualTerms$Text" 3 (Y_O_init).1 := Or.inl (et_in 82 (by decide +kernel) (by decide +kernel))
theorem fl_T_9 : Cond.fieldLink "EqualTerms$Text" 9 "EqualTerms$Text" "characters" "[I" ∈ et_W := et_in 83 (by decide +kernel) (by decide +kernel)
theorem fl_U_19 : Cond.fieldLink "EqualTerms$Rule" 19 "EqualTerms$Text" "characters" "[I" ∈ et_W := et_in 84 (by decide +kernel) (by decide +kernel)
theorem fl_E_68 : Cond.fieldLink "EqualTerms" 68 "EqualTerms$Text" "characters" "[I" ∈ et_W := et_in 85 (by decide +kernel) (by decide +kernel)
theorem fl_T_15 : Cond.fieldLink "EqualTerms$Text" 15 "EqualTerms$Text" "size" "I" ∈ et_W := et_in 86 (by decide +kernel) (by decide +kernel)
theorem fl_U_24 : Cond.fieldLink "EqualTerms$Rule" 24 "EqualTerms$Text" "size" "I" ∈ et_W := et_in 87 (by decide +kernel) (by decide +kernel)
theorem fl_E_62 : Cond.fieldLink "EqualTerms" 62 "EqualTerms$Text" "size" "I" ∈ et_W := et_in 88 (by decide +kernel) (by decide +kernel)
theorem fl_T_19 : Cond.fieldLink "EqualTerms$Text" 19 "EqualTerms$Text" "middle" "I" ∈ et_W := et_in 89 (by decide +kernel) (by decide +kernel)
theorem fl_U_35 : Cond.fieldLink "EqualTerms$Rule" 35 "EqualTerms$Text" "middle" "I" ∈ et_W := et_in 90 (by decide +kernel) (by decide +kernel)
theorem fl_E_116 : Cond.fieldLink "EqualTerms" 116 "EqualTerms$Text" "middle" "I" ∈ et_W := et_in 91 (by decide +kernel) (by decide +kernel)
theorem fl_T_22 : Cond.fieldLink "EqualTerms$Text" 22 "EqualTerms$Text" "wrongPlace" "I" ∈ et_W := et_in 92 (by decide +kernel) (by decide +kernel)
theorem fl_E_72 : Cond.fieldLink "EqualTerms" 72 "EqualTerms$Text" "wrongPlace" "I" ∈ et_W := et_in 93 (by decide +kernel) (by decide +kernel)
theorem ac_int : Cond.arrayClass .int ∈ et_W := et_in 103 (by decide +kernel) (by decide +kernel)
theorem cl_E_16 : Cond.classLink "EqualTerms" 16 "EqualTerms$Graph" ∈ et_W := et_in 104 (by decide +kernel) (by decide +kernel)
theorem ins_G : Cond.instantiable "EqualTerms$Graph" 8 ∈ et_W := et_in 105 (by decide +kernel) (by decide +kernel)
theorem lk_E_18 : et_lk "EqualTerms" 18 (Y_G_init).1 := Or.inr ⟨"EqualTerms", by decide +kernel⟩
theorem lk_G_3 : et_lk "EqualTerms$Graph" 3 (Y_O_init).1 := Or.inl (et_in 109 (by decide +kernel) (by decide +kernel))
theorem fl_G_9 : Cond.fieldLink "EqualTerms$Graph" 9 "EqualTerms$Graph" "signs" "[I" ∈ et_W := et_in 110 (by decide +kernel) (by decide +kernel)
theorem fl_C_70 : Cond.fieldLink "EqualTerms$Cheapest" 70 "EqualTerms$Graph" "signs" "[I" ∈ et_W := et_in 111 (by decide +kernel) (by decide +kernel)
theorem fl_R_86 : Cond.fieldLink "EqualTerms$Round" 86 "EqualTerms$Graph" "signs" "[I" ∈ et_W := et_in 112 (by decide +kernel) (by decide +kernel)
theorem fl_G_15 : Cond.fieldLink "EqualTerms$Graph" 15 "EqualTerms$Graph" "lefts" "[I" ∈ et_W := et_in 113 (by decide +kernel) (by decide +kernel)
theorem fl_C_73 : Cond.fieldLink "EqualTerms$Cheapest" 73 "EqualTerms$Graph" "lefts" "[I" ∈ et_W := et_in 114 (by decide +kernel) (by decide +kernel)
theorem fl_R_97 : Cond.fieldLink "EqualTerms$Round" 97 "EqualTerms$Graph" "lefts" "[I" ∈ et_W := et_in 115 (by decide +kernel) (by decide +kernel)
theorem fl_G_18 : Cond.fieldLink "EqualTerms$Graph" 18 "EqualTerms$Graph" "rights" "[I" ∈ et_W := et_in 116 (by decide +kernel) (by decide +kernel)
theorem fl_C_80 : Cond.fieldLink "EqualTerms$Cheapest" 80 "EqualTerms$Graph" "rights" "[I" ∈ et_W := et_in 117 (by decide +kernel) (by decide +kernel)
theorem fl_R_103 : Cond.fieldLink "EqualTerms$Round" 103 "EqualTerms$Graph" "rights" "[I" ∈ et_W := et_in 118 (by decide +kernel) (by decide +kernel)
theorem fl_G_21 : Cond.fieldLink "EqualTerms$Graph" 21 "EqualTerms$Graph" "homes" "[I" ∈ et_W := et_in 119 (by decide +kernel) (by decide +kernel)
theorem fl_C_58 : Cond.fieldLink "EqualTerms$Cheapest" 58 "EqualTerms$Graph" "homes" "[I" ∈ et_W := et_in 120 (by decide +kernel) (by decide +kernel)
theorem fl_R_56 : Cond.fieldLink "EqualTerms$Round" 56 "EqualTerms$Graph" "homes" "[I" ∈ et_W := et_in 121 (by decide +kernel) (by decide +kernel)
theorem fl_G_24 : Cond.fieldLink "EqualTerms$Graph" 24 "EqualTerms$Graph" "nodeCount" "I" ∈ et_W := et_in 122 (by decide +kernel) (by decide +kernel)
theorem fl_R_33 : Cond.fieldLink "EqualTerms$Round" 33 "EqualTerms$Graph" "nodeCount" "I" ∈ et_W := et_in 123 (by decide +kernel) (by decide +kernel)
theorem fl_C_51 : Cond.fieldLink "EqualTerms$Cheapest" 51 "EqualTerms$Graph" "nodeCount" "I" ∈ et_W := et_in 124 (by decide +kernel) (by decide +kernel)
theorem fl_E_97 : Cond.fieldLink "EqualTerms" 97 "EqualTerms$Graph" "nodeCount" "I" ∈ et_W := et_in 125 (by decide +kernel) (by decide +kernel)
theorem fl_G_28 : Cond.fieldLink "EqualTerms$Graph" 28 "EqualTerms$Graph" "classCount" "I" ∈ et_W := et_in 126 (by decide +kernel) (by decide +kernel)
theorem fl_R_39 : Cond.fieldLink "EqualTerms$Round" 39 "EqualTerms$Graph" "classCount" "I" ∈ et_W := et_in 127 (by decide +kernel) (by decide +kernel)
theorem fl_C_45 : Cond.fieldLink "EqualTerms$Cheapest" 45 "EqualTerms$Graph" "classCount" "I" ∈ et_W := et_in 128 (by decide +kernel) (by decide +kernel)
theorem fl_E_100 : Cond.fieldLink "EqualTerms" 100 "EqualTerms$Graph" "classCount" "I" ∈ et_W := et_in 129 (by decide +kernel) (by decide +kernel)
theorem fl_G_31 : Cond.fieldLink "EqualTerms$Graph" 31 "EqualTerms$Graph" "names" "[I" ∈ et_W := et_in 130 (by decide +kernel) (by decide +kernel)
theorem fl_G_34 : Cond.fieldLink "EqualTerms$Graph" 34 "EqualTerms$Graph" "numbers" "[I" ∈ et_W := et_in 131 (by decide +kernel) (by decide +kernel)
theorem cl_E_23 : Cond.classLink "EqualTerms" 23 "EqualTerms$Walk" ∈ et_W := et_in 149 (by decide +kernel) (by decide +kernel)
theorem ins_K : Cond.instantiable "EqualTerms$Walk" 3 ∈ et_W := et_in 150 (by decide +kernel) (by decide +kernel)
theorem lk_E_25 : et_lk "EqualTerms" 25 (Y_K_init).1 := Or.inl (et_in 151 (by decide +kernel) (by decide +kernel))
theorem lk_K_3 : et_lk "EqualTerms$Walk" 3 (Y_O_init).1 := Or.inl (et_in 154 (by decide +kernel) (by decide +kernel))
theorem fl_K_9 : Cond.fieldLink "EqualTerms$Walk" 9 "EqualTerms$Walk" "variables" "[I" ∈ et_W := et_in 155 (by decide +kernel) (by decide +kernel)
theorem fl_R_81 : Cond.fieldLink "EqualTerms$Round" 81 "EqualTerms$Walk" "variables" "[I" ∈ et_W := et_in 156 (by decide +kernel) (by decide +kernel)
theorem fl_K_18 : Cond.fieldLink "EqualTerms$Walk" 18 "EqualTerms$Walk" "graph" "LEqualTerms$Graph;" ∈ et_W := et_in 157 (by decide +kernel) (by decide +kernel)
theorem fl_K_15 : Cond.fieldLink "EqualTerms$Walk" 15 "EqualTerms$Walk" "stack" "[I" ∈ et_W := et_in 158 (by decide +kernel) (by decide +kernel)
theorem cl_E_32 : Cond.classLink "EqualTerms" 32 "EqualTerms$Round" ∈ et_W := et_in 166 (by decide +kernel) (by decide +kernel)
theorem ins_R : Cond.instantiable "EqualTerms$Round" 6 ∈ et_W := et_in 167 (by decide +kernel) (by decide +kernel)
theorem lk_E_34 : et_lk "EqualTerms" 34 (Y_R_init).1 := Or.inl (et_in 168 (by decide +kernel) (by decide +kernel))
theorem lk_R_3 : et_lk "EqualTerms$Round" 3 (Y_O_init).1 := Or.inl (et_in 171 (by decide +kernel) (by decide +kernel))
theorem fl_R_9 : Cond.fieldLink "EqualTerms$Round" 9 "EqualTerms$Round" "changed" "Z" ∈ et_W := et_in 172 (by decide +kernel) (by decide +kernel)
theorem fl_E_148 : Cond.fieldLink "EqualTerms" 148 "EqualTerms$Round" "changed" "Z" ∈ et_W := et_in 173 (by decide +kernel) (by decide +kernel)
theorem fl_R_25 : Cond.fieldLink "EqualTerms$Round" 25 "EqualTerms$Round" "graph" "LEqualTerms$Graph;" ∈ et_W := et_in 174 (by decide +kernel) (by decide +kernel)
theorem fl_R_29 : Cond.fieldLink "EqualTerms$Round" 29 "EqualTerms$Round" "walk" "LEqualTerms$Walk;" ∈ et_W := et_in 175 (by decide +kernel) (by decide +kernel)
theorem fl_R_15 : Cond.fieldLink "EqualTerms$Round" 15 "EqualTerms$Round" "seats" "[I" ∈ et_W := et_in 176 (by decide +kernel) (by decide +kernel)
theorem fl_R_19 : Cond.fieldLink "EqualTerms$Round" 19 "EqualTerms$Round" "listed" "[I" ∈ et_W := et_in 177 (by decide +kernel) (by decide +kernel)
theorem fl_R_22 : Cond.fieldLink "EqualTerms$Round" 22 "EqualTerms$Round" "begins" "[I" ∈ et_W := et_in 178 (by decide +kernel) (by decide +kernel)
theorem cl_E_41 : Cond.classLink "EqualTerms" 41 "EqualTerms$Cheapest" ∈ et_W := et_in 192 (by decide +kernel) (by decide +kernel)
theorem ins_C : Cond.instantiable "EqualTerms$Cheapest" 6 ∈ et_W := et_in 193 (by decide +kernel) (by decide +kernel)
theorem lk_E_43 : et_lk "EqualTerms" 43 (Y_C_init).1 := Or.inl (et_in 194 (by decide +kernel) (by decide +kernel))
theorem lk_C_3 : et_lk "EqualTerms$Cheapest" 3 (Y_O_init).1 := Or.inl (et_in 197 (by decide +kernel) (by decide +kernel))
theorem cl_C_22 : Cond.classLink "EqualTerms$Cheapest" 22 "[[I" ∈ et_W := et_in 198 (by decide +kernel) (by decide +kernel)
theorem lk_C_34 : et_lk "EqualTerms$Cheapest" 34 (Y_A_fill_II).1 := Or.inl (et_in 200 (by decide +kernel) (by decide +kernel))
theorem fl_C_9 : Cond.fieldLink "EqualTerms$Cheapest" 9 "EqualTerms$Cheapest" "prices" "[I" ∈ et_W := et_in 203 (by decide +kernel) (by decide +kernel)
theorem fl_E_139 : Cond.fieldLink "EqualTerms" 139 "EqualTerms$Cheapest" "prices" "[I" ∈ et_W := et_in 204 (by decide +kernel) (by decide +kernel)
theorem fl_C_15 : Cond.fieldLink "EqualTerms$Cheapest" 15 "EqualTerms$Cheapest" "costs" "[J" ∈ et_W := et_in 205 (by decide +kernel) (by decide +kernel)
theorem fl_E_164 : Cond.fieldLink "EqualTerms" 164 "EqualTerms$Cheapest" "costs" "[J" ∈ et_W := et_in 206 (by decide +kernel) (by decide +kernel)
theorem fl_C_19 : Cond.fieldLink "EqualTerms$Cheapest" 19 "EqualTerms$Cheapest" "lengths" "[J" ∈ et_W := et_in 207 (by decide +kernel) (by decide +kernel)
theorem fl_E_172 : Cond.fieldLink "EqualTerms" 172 "EqualTerms$Cheapest" "lengths" "[J" ∈ et_W := et_in 208 (by decide +kernel) (by decide +kernel)
theorem fl_C_24 : Cond.fieldLink "EqualTerms$Cheapest" 24 "EqualTerms$Cheapest" "terms" "[[I" ∈ et_W := et_in 209 (by decide +kernel) (by decide +kernel)
theorem fl_E_181 : Cond.fieldLink "EqualTerms" 181 "EqualTerms$Cheapest" "terms" "[[I" ∈ et_W := et_in 210 (by decide +kernel) (by decide +kernel)
theorem fl_C_30 : Cond.fieldLink "EqualTerms$Cheapest" 30 "EqualTerms$Cheapest" "graph" "LEqualTerms$Graph;" ∈ et_W := et_in 211 (by decide +kernel) (by decide +kernel)
theorem fl_C_27 : Cond.fieldLink "EqualTerms$Cheapest" 27 "EqualTerms$Cheapest" "trial" "[I" ∈ et_W := et_in 212 (by decide +kernel) (by decide +kernel)
theorem ac_long : Cond.arrayClass .long ∈ et_W := et_in 226 (by decide +kernel) (by decide +kernel)
theorem cl_E_48 : Cond.classLink "EqualTerms" 48 "EqualTerms$Rule" ∈ et_W := et_in 227 (by decide +kernel) (by decide +kernel)
theorem fl_E_10 : Cond.fieldLink "EqualTerms" 10 "EqualTerms" "text" "LEqualTerms$Text;" ∈ et_W := et_in 229 (by decide +kernel) (by decide +kernel)
theorem fl_E_19 : Cond.fieldLink "EqualTerms" 19 "EqualTerms" "graph" "LEqualTerms$Graph;" ∈ et_W := et_in 230 (by decide +kernel) (by decide +kernel)
theorem fl_E_28 : Cond.fieldLink "EqualTerms" 28 "EqualTerms" "walk" "LEqualTerms$Walk;" ∈ et_W := et_in 231 (by decide +kernel) (by decide +kernel)
theorem fl_E_37 : Cond.fieldLink "EqualTerms" 37 "EqualTerms" "round" "LEqualTerms$Round;" ∈ et_W := et_in 232 (by decide +kernel) (by decide +kernel)
theorem fl_E_44 : Cond.fieldLink "EqualTerms" 44 "EqualTerms" "cheapest" "LEqualTerms$Cheapest;" ∈ et_W := et_in 233 (by decide +kernel) (by decide +kernel)
theorem fl_E_50 : Cond.fieldLink "EqualTerms" 50 "EqualTerms" "ruleRow" "[LEqualTerms$Rule;" ∈ et_W := et_in 234 (by decide +kernel) (by decide +kernel)
theorem fl_E_54 : Cond.fieldLink "EqualTerms" 54 "EqualTerms" "ruleCount" "I" ∈ et_W := et_in 235 (by decide +kernel) (by decide +kernel)
theorem lk_L_50 : et_lk "EqualTermsLaw" 50 (Y_E_type).1 := Or.inl (et_in 251 (by decide +kernel) (by decide +kernel))
theorem lk_E_58 : et_lk "EqualTerms" 58 (Y_T_append).1 := Or.inl (et_in 255 (by decide +kernel) (by decide +kernel))
theorem lk_T_25 : et_lk "EqualTerms$Text" 25 (Y_T_byteAt).1 := Or.inl (et_in 259 (by decide +kernel) (by decide +kernel))
theorem kl_T_29 : Cond.constantLong "EqualTerms$Text" 29 255 ∈ et_W := et_in 262 (by decide +kernel) (by decide +kernel)
theorem lk_L_55 : et_lk "EqualTermsLaw" 55 (Y_E_wipe).1 := Or.inl (et_in 263 (by decide +kernel) (by decide +kernel))
theorem lk_E_65 : et_lk "EqualTerms" 65 (Y_T_clear).1 := Or.inl (et_in 267 (by decide +kernel) (by decide +kernel))
theorem lk_L_59 : et_lk "EqualTermsLaw" 59 (Y_E_character).1 := Or.inl (et_in 271 (by decide +kernel) (by decide +kernel))
theorem lk_L_63 : et_lk "EqualTermsLaw" 63 (Y_E_place).1 := Or.inl (et_in 275 (by decide +kernel) (by decide +kernel))
theorem lk_L_93 : et_lk "EqualTermsLaw" 93 (Y_E_nodes).1 := Or.inl (et_in 279 (by decide +kernel) (by decide +kernel))
theorem lk_L_97 : et_lk "EqualTermsLaw" 97 (Y_E_classes).1 := Or.inl (et_in 283 (by decide +kernel) (by decide +kernel))
theorem lk_L_67 : et_lk "EqualTermsLaw" 67 (Y_L_rule).1 := Or.inl (et_in 287 (by decide +kernel) (by decide +kernel))
theorem cl_L_13 : Cond.classLink "EqualTermsLaw" 13 "java/lang/IllegalArgumentException" ∈ et_W := et_in 290 (by decide +kernel) (by decide +kernel)
theorem cl_L_15 : Cond.classLink "EqualTermsLaw" 15 "java/lang/IllegalStateException" ∈ et_W := et_in 291 (by decide +kernel) (by decide +kernel)
theorem lk_L_7 : et_lk "EqualTermsLaw" 7 (Y_E_rule).1 := Or.inl (et_in 292 (by decide +kernel) (by decide +kernel))
theorem lk_E_75 : et_lk "EqualTerms" 75 (Y_T_isRule).1 := Or.inl (et_in 296 (by decide +kernel) (by decide +kernel))
theorem lk_T_37 : et_lk "EqualTerms$Text" 37 (Y_T_firstWrong).1 := Or.inl (et_in 300 (by decide +kernel) (by decide +kernel))
theorem lk_T_45 : et_lk "EqualTerms$Text" 45 (Y_T_partsInRule).1 := Or.inl (et_in 304 (by decide +kernel) (by decide +kernel))
theorem lk_T_54 : et_lk "EqualTerms$Text" 54 (Y_S_isVariable).1 := Or.inl (et_in 308 (by decide +kernel) (by decide +kernel))
theorem lk_T_57 : et_lk "EqualTerms$Text" 57 (Y_T_inFirstSide).1 := Or.inl (et_in 311 (by decide +kernel) (by decide +kernel))
theorem lk_T_60 : et_lk "EqualTerms$Text" 60 (Y_S_partsInPattern).1 := Or.inl (et_in 315 (by decide +kernel) (by decide +kernel))
theorem lk_S_9 : et_lk "EqualTerms$Signs" 9 (Y_S_isVariable).1 := Or.inl (et_in 318 (by decide +kernel) (by decide +kernel))
theorem lk_S_15 : et_lk "EqualTerms$Signs" 15 (Y_S_parts).1 := Or.inl (et_in 319 (by decide +kernel) (by decide +kernel))
theorem lk_T_49 : et_lk "EqualTerms$Text" 49 (Y_S_parts).1 := Or.inl (et_in 322 (by decide +kernel) (by decide +kernel))
theorem lk_T_41 : et_lk "EqualTerms$Text" 41 (Y_T_noteWrong).1 := Or.inl (et_in 323 (by decide +kernel) (by decide +kernel))
theorem cl_E_79 : Cond.classLink "EqualTerms" 79 "java/lang/IllegalArgumentException" ∈ et_W := et_in 327 (by decide +kernel) (by decide +kernel)
theorem ins_IllegalArgumentException : Cond.instantiable "java/lang/IllegalArgumentException" 6 ∈ et_W := et_in 328 (by decide +kernel) (by decide +kernel)
theorem ins_Throwable : Cond.instantiable "java/lang/Throwable" 6 ∈ et_W := et_in 365 (by decide +kernel) (by decide +kernel)
set_option maxRecDepth 100000 in
theorem ml_E_83 : Cond.methodLink "EqualTerms" 83 ⟨"java/lang/IllegalArgumentException", "<init>", "(Ljava/lang/String;)V"⟩ ∈ et_W := et_in 368 (by decide +kernel) (by decide +kernel)
theorem ac_byte : Cond.arrayClass .byte ∈ et_W := et_in 393 (by decide +kernel) (by decide +kernel)
theorem cl_E_86 : Cond.classLink "EqualTerms" 86 "java/lang/IllegalStateException" ∈ et_W := et_in 394 (by decide +kernel) (by decide +kernel)
theorem ins_IllegalStateException : Cond.instantiable "java/lang/IllegalStateException" 6 ∈ et_W := et_in 395 (by decide +kernel) (by decide +kernel)
set_option maxRecDepth 100000 in
theorem ml_E_90 : Cond.methodLink "EqualTerms" 90 ⟨"java/lang/IllegalStateException", "<init>", "(Ljava/lang/String;)V"⟩ ∈ et_W := et_in 404 (by decide +kernel) (by decide +kernel)
theorem ins_U : Cond.instantiable "EqualTerms$Rule" 4 ∈ et_W := et_in 410 (by decide +kernel) (by decide +kernel)
theorem lk_E_91 : et_lk "EqualTerms" 91 (Y_U_init).1 := Or.inl (et_in 411 (by decide +kernel) (by decide +kernel))
theorem lk_U_3 : et_lk "EqualTerms$Rule" 3 (Y_O_init).1 := Or.inl (et_in 414 (by decide +kernel) (by decide +kernel))
theorem lk_U_28 : et_lk "EqualTerms$Rule" 28 (Y_A_copyOf).1 := Or.inl (et_in 415 (by decide +kernel) (by decide +kernel))
set_option maxRecDepth 100000 in
theorem ml_A_316 : Cond.methodLink "java/util/Arrays" 316 ⟨"[I", "clone", "()Ljava/lang/Object;"⟩ ∈ et_W := et_in 418 (by decide +kernel) (by decide +kernel)
theorem cl_A_317 : Cond.classLink "java/util/Arrays" 317 "[I" ∈ et_W := et_in 424 (by decide +kernel) (by decide +kernel)
theorem lk_A_304 : et_lk "java/util/Arrays" 304 (Y_H_min).1 := Or.inl (et_in 425 (by decide +kernel) (by decide +kernel))
set_option maxRecDepth 100000 in
theorem ml_A_150 : Cond.methodLink "java/util/Arrays" 150 ⟨"java/lang/System", "arraycopy", "(Ljava/lang/Object;ILjava/lang/Object;II)V"⟩ ∈ et_W := et_in 428 (by decide +kernel) (by decide +kernel)
theorem lk_U_39 : et_lk "EqualTerms$Rule" 39 (Y_S_isVariable).1 := Or.inl (et_in 431 (by decide +kernel) (by decide +kernel))
theorem lk_U_45 : et_lk "EqualTerms$Rule" 45 (Y_S_parts).1 := Or.inl (et_in 432 (by decide +kernel) (by decide +kernel))
theorem lk_U_49 : et_lk "EqualTerms$Rule" 49 (Y_U_endOfPattern).1 := Or.inl (et_in 433 (by decide +kernel) (by decide +kernel))
theorem lk_U_53 : et_lk "EqualTerms$Rule" 53 (Y_S_partsInPattern).1 := Or.inl (et_in 436 (by decide +kernel) (by decide +kernel))
theorem fl_U_34 : Cond.fieldLink "EqualTerms$Rule" 34 "EqualTerms$Rule" "characters" "[I" ∈ et_W := et_in 437 (by decide +kernel) (by decide +kernel)
theorem fl_R_68 : Cond.fieldLink "EqualTerms$Round" 68 "EqualTerms$Rule" "characters" "[I" ∈ et_W := et_in 438 (by decide +kernel) (by decide +kernel)
theorem fl_U_38 : Cond.fieldLink "EqualTerms$Rule" 38 "EqualTerms$Rule" "middle" "I" ∈ et_W := et_in 439 (by decide +kernel) (by decide +kernel)
theorem fl_R_59 : Cond.fieldLink "EqualTerms$Round" 59 "EqualTerms$Rule" "middle" "I" ∈ et_W := et_in 440 (by decide +kernel) (by decide +kernel)
theorem fl_U_9 : Cond.fieldLink "EqualTerms$Rule" 9 "EqualTerms$Rule" "secondPart" "[I" ∈ et_W := et_in 441 (by decide +kernel) (by decide +kernel)
theorem fl_R_100 : Cond.fieldLink "EqualTerms$Round" 100 "EqualTerms$Rule" "secondPart" "[I" ∈ et_W := et_in 442 (by decide +kernel) (by decide +kernel)
theorem fl_U_15 : Cond.fieldLink "EqualTerms$Rule" 15 "EqualTerms$Rule" "binds" "[Z" ∈ et_W := et_in 443 (by decide +kernel) (by decide +kernel)
theorem fl_R_77 : Cond.fieldLink "EqualTerms$Round" 77 "EqualTerms$Rule" "binds" "[Z" ∈ et_W := et_in 444 (by decide +kernel) (by decide +kernel)
theorem ac_boolean : Cond.arrayClass .boolean ∈ et_W := et_in 454 (by decide +kernel) (by decide +kernel)
theorem lk_L_76 : et_lk "EqualTermsLaw" 76 (Y_L_add).1 := Or.inl (et_in 455 (by decide +kernel) (by decide +kernel))
theorem lk_L_17 : et_lk "EqualTermsLaw" 17 (Y_E_add).1 := Or.inl (et_in 458 (by decide +kernel) (by decide +kernel))
theorem lk_E_94 : et_lk "EqualTerms" 94 (Y_E_demandTerm).1 := Or.inl (et_in 462 (by decide +kernel) (by decide +kernel))
theorem lk_E_189 : et_lk "EqualTerms" 189 (Y_T_isTerm).1 := Or.inl (et_in 466 (by decide +kernel) (by decide +kernel))
theorem lk_E_103 : et_lk "EqualTerms" 103 (Y_K_classOf).1 := Or.inl (et_in 471 (by decide +kernel) (by decide +kernel))
theorem lk_K_22 : et_lk "EqualTerms$Walk" 22 (Y_S_partsInPattern).1 := Or.inl (et_in 475 (by decide +kernel) (by decide +kernel))
theorem lk_K_28 : et_lk "EqualTerms$Walk" 28 (Y_S_isVariable).1 := Or.inl (et_in 476 (by decide +kernel) (by decide +kernel))
theorem lk_K_32 : et_lk "EqualTerms$Walk" 32 (Y_G_homeOf).1 := Or.inl (et_in 477 (by decide +kernel) (by decide +kernel))
theorem lk_G_37 : et_lk "EqualTerms$Graph" 37 (Y_G_nodeAmong).1 := Or.inl (et_in 481 (by decide +kernel) (by decide +kernel))
theorem lk_G_41 : et_lk "EqualTerms$Graph" 41 (Y_G_putNode).1 := Or.inl (et_in 485 (by decide +kernel) (by decide +kernel))
theorem lk_E_107 : et_lk "EqualTerms" 107 (Y_G_goBack).1 := Or.inl (et_in 489 (by decide +kernel) (by decide +kernel))
theorem lk_G_45 : et_lk "EqualTerms$Graph" 45 (Y_G_nameAllByNumber).1 := Or.inl (et_in 493 (by decide +kernel) (by decide +kernel))
theorem lk_L_79 : et_lk "EqualTermsLaw" 79 (Y_L_unite).1 := Or.inl (et_in 498 (by decide +kernel) (by decide +kernel))
theorem lk_L_20 : et_lk "EqualTermsLaw" 20 (Y_E_unite).1 := Or.inl (et_in 501 (by decide +kernel) (by decide +kernel))
theorem lk_E_113 : et_lk "EqualTerms" 113 (Y_E_demandEquation).1 := Or.inl (et_in 505 (by decide +kernel) (by decide +kernel))
theorem lk_E_194 : et_lk "EqualTerms" 194 (Y_T_isEquation).1 := Or.inl (et_in 509 (by decide +kernel) (by decide +kernel))
theorem lk_E_121 : et_lk "EqualTerms" 121 (Y_G_join).1 := Or.inl (et_in 515 (by decide +kernel) (by decide +kernel))
theorem lk_E_125 : et_lk "EqualTerms" 125 (Y_G_settle).1 := Or.inl (et_in 519 (by decide +kernel) (by decide +kernel))
theorem lk_G_48 : et_lk "EqualTerms$Graph" 48 (Y_G_rename).1 := Or.inl (et_in 523 (by decide +kernel) (by decide +kernel))
theorem lk_G_51 : et_lk "EqualTerms$Graph" 51 (Y_G_mergeTwins).1 := Or.inl (et_in 527 (by decide +kernel) (by decide +kernel))
theorem lk_G_58 : et_lk "EqualTerms$Graph" 58 (Y_G_join).1 := Or.inl (et_in 531 (by decide +kernel) (by decide +kernel))
theorem lk_G_55 : et_lk "EqualTerms$Graph" 55 (Y_G_renumber).1 := Or.inl (et_in 532 (by decide +kernel) (by decide +kernel))
theorem lk_G_62 : et_lk "EqualTerms$Graph" 62 (Y_A_fill_II).1 := Or.inl (et_in 536 (by decide +kernel) (by decide +kernel))
set_option maxRecDepth 100000 in
theorem ml_G_68 : Cond.methodLink "EqualTerms$Graph" 68 ⟨"java/lang/System", "arraycopy", "(Ljava/lang/Object;ILjava/lang/Object;II)V"⟩ ∈ et_W := et_in 537 (by decide +kernel) (by decide +kernel)
theorem lk_L_82 : et_lk "EqualTermsLaw" 82 (Y_L_same).1 := Or.inl (et_in 538 (by decide +kernel) (by decide +kernel))
theorem lk_L_23 : et_lk "EqualTermsLaw" 23 (Y_E_same).1 := Or.inl (et_in 541 (by decide +kernel) (by decide +kernel))
theorem lk_L_85 : et_lk "EqualTermsLaw" 85 (Y_L_price).1 := Or.inl (et_in 545 (by decide +kernel) (by decide +kernel))
theorem lk_L_26 : et_lk "EqualTermsLaw" 26 (Y_E_price).1 := Or.inl (et_in 548 (by decide +kernel) (by decide +kernel))
theorem lk_E_128 : et_lk "EqualTerms" 128 (Y_S_parts).1 := Or.inl (et_in 552 (by decide +kernel) (by decide +kernel))
theorem kc_E_136 : Cond.constant "EqualTerms" 136 1000000000 ∈ et_W := et_in 554 (by decide +kernel) (by decide +kernel)
theorem lk_L_89 : et_lk "EqualTermsLaw" 89 (Y_L_rounds).1 := Or.inl (et_in 556 (by decide +kernel) (by decide +kernel))
theorem lk_L_30 : et_lk "EqualTermsLaw" 30 (Y_E_rounds).1 := Or.inl (et_in 559 (by decide +kernel) (by decide +kernel))
theorem lk_E_144 : et_lk "EqualTerms" 144 (Y_R_fitAll).1 := Or.inl (et_in 564 (by decide +kernel) (by decide +kernel))
theorem lk_R_42 : et_lk "EqualTerms$Round" 42 (Y_R_listNodes).1 := Or.inl (et_in 568 (by decide +kernel) (by decide +kernel))
theorem lk_R_45 : et_lk "EqualTerms$Round" 45 (Y_R_fitFrom).1 := Or.inl (et_in 572 (by decide +kernel) (by decide +kernel))
theorem lk_R_64 : et_lk "EqualTerms$Round" 64 (Y_R_joinSides).1 := Or.inl (et_in 576 (by decide +kernel) (by decide +kernel))
theorem lk_R_106 : et_lk "EqualTerms$Round" 106 (Y_K_classOf).1 := Or.inl (et_in 580 (by decide +kernel) (by decide +kernel))
theorem lk_R_110 : et_lk "EqualTerms$Round" 110 (Y_G_join).1 := Or.inl (et_in 581 (by decide +kernel) (by decide +kernel))
theorem lk_R_71 : et_lk "EqualTerms$Round" 71 (Y_S_isVariable).1 := Or.inl (et_in 582 (by decide +kernel) (by decide +kernel))
theorem lk_R_89 : et_lk "EqualTerms$Round" 89 (Y_R_seatParts).1 := Or.inl (et_in 583 (by decide +kernel) (by decide +kernel))
theorem lk_R_93 : et_lk "EqualTerms$Round" 93 (Y_S_parts).1 := Or.inl (et_in 587 (by decide +kernel) (by decide +kernel))
theorem lk_R_49 : et_lk "EqualTerms$Round" 49 (Y_G_goBack).1 := Or.inl (et_in 588 (by decide +kernel) (by decide +kernel))
theorem lk_R_53 : et_lk "EqualTerms$Round" 53 (Y_G_settle).1 := Or.inl (et_in 589 (by decide +kernel) (by decide +kernel))
theorem lk_L_101 : et_lk "EqualTermsLaw" 101 (Y_L_members).1 := Or.inl (et_in 590 (by decide +kernel) (by decide +kernel))
theorem lk_L_34 : et_lk "EqualTermsLaw" 34 (Y_E_members).1 := Or.inl (et_in 593 (by decide +kernel) (by decide +kernel))
theorem lk_E_152 : et_lk "EqualTerms" 152 (Y_E_takeTerm).1 := Or.inl (et_in 597 (by decide +kernel) (by decide +kernel))
theorem lk_E_156 : et_lk "EqualTerms" 156 (Y_G_sizeOf).1 := Or.inl (et_in 601 (by decide +kernel) (by decide +kernel))
theorem lk_L_104 : et_lk "EqualTermsLaw" 104 (Y_L_cost).1 := Or.inl (et_in 605 (by decide +kernel) (by decide +kernel))
theorem lk_L_37 : et_lk "EqualTermsLaw" 37 (Y_E_cost).1 := Or.inl (et_in 608 (by decide +kernel) (by decide +kernel))
theorem kl_E_159 : Cond.constantLong "EqualTerms" 159 (-1) ∈ et_W := et_in 612 (by decide +kernel) (by decide +kernel)
theorem lk_E_161 : et_lk "EqualTerms" 161 (Y_C_weigh).1 := Or.inl (et_in 613 (by decide +kernel) (by decide +kernel))
theorem kl_C_40 : Cond.constantLong "EqualTerms$Cheapest" 40 4611686018427387905 ∈ et_W := et_in 617 (by decide +kernel) (by decide +kernel)
theorem lk_C_42 : et_lk "EqualTerms$Cheapest" 42 (Y_A_fill_JJ).1 := Or.inl (et_in 618 (by decide +kernel) (by decide +kernel))
theorem lk_C_54 : et_lk "EqualTerms$Cheapest" 54 (Y_C_weighNode).1 := Or.inl (et_in 621 (by decide +kernel) (by decide +kernel))
theorem lk_C_61 : et_lk "EqualTerms$Cheapest" 61 (Y_C_costThrough).1 := Or.inl (et_in 625 (by decide +kernel) (by decide +kernel))
theorem lk_C_76 : et_lk "EqualTerms$Cheapest" 76 (Y_C_sum).1 := Or.inl (et_in 629 (by decide +kernel) (by decide +kernel))
theorem kl_C_65 : Cond.constantLong "EqualTerms$Cheapest" 65 4611686018427387904 ∈ et_W := et_in 632 (by decide +kernel) (by decide +kernel)
theorem lk_C_67 : et_lk "EqualTerms$Cheapest" 67 (Y_C_lengthThrough).1 := Or.inl (et_in 633 (by decide +kernel) (by decide +kernel))
theorem kl_E_168 : Cond.constantLong "EqualTerms" 168 4611686018427387904 ∈ et_W := et_in 637 (by decide +kernel) (by decide +kernel)
theorem kl_E_170 : Cond.constantLong "EqualTerms" 170 (-3) ∈ et_W := et_in 638 (by decide +kernel) (by decide +kernel)
theorem lk_L_107 : et_lk "EqualTermsLaw" 107 (Y_L_best).1 := Or.inl (et_in 639 (by decide +kernel) (by decide +kernel))
theorem lk_L_41 : et_lk "EqualTermsLaw" 41 (Y_E_best).1 := Or.inl (et_in 642 (by decide +kernel) (by decide +kernel))
theorem kl_E_175 : Cond.constantLong "EqualTerms" 175 60 ∈ et_W := et_in 646 (by decide +kernel) (by decide +kernel)
theorem lk_E_177 : et_lk "EqualTerms" 177 (Y_C_spell).1 := Or.inl (et_in 647 (by decide +kernel) (by decide +kernel))
theorem lk_C_83 : et_lk "EqualTerms$Cheapest" 83 (Y_C_isBest).1 := Or.inl (et_in 651 (by decide +kernel) (by decide +kernel))
theorem lk_C_86 : et_lk "EqualTerms$Cheapest" 86 (Y_C_spellNode).1 := Or.inl (et_in 655 (by decide +kernel) (by decide +kernel))
theorem lk_C_90 : et_lk "EqualTerms$Cheapest" 90 (Y_C_appendTerm).1 := Or.inl (et_in 659 (by decide +kernel) (by decide +kernel))
set_option maxRecDepth 100000 in
theorem ml_C_98 : Cond.methodLink "EqualTerms$Cheapest" 98 ⟨"java/lang/System", "arraycopy", "(Ljava/lang/Object;ILjava/lang/Object;II)V"⟩ ∈ et_W := et_in 663 (by decide +kernel) (by decide +kernel)
theorem lk_C_94 : et_lk "EqualTerms$Cheapest" 94 (Y_C_trialComesBefore).1 := Or.inl (et_in 664 (by decide +kernel) (by decide +kernel))
theorem lk_E_185 : et_lk "EqualTerms" 185 (Y_T_become).1 := Or.inl (et_in 668 (by decide +kernel) (by decide +kernel))
set_option maxRecDepth 100000 in
theorem ml_T_31 : Cond.methodLink "EqualTerms$Text" 31 ⟨"java/lang/System", "arraycopy", "(Ljava/lang/Object;ILjava/lang/Object;II)V"⟩ ∈ et_W := et_in 672 (by decide +kernel) (by decide +kernel)
theorem cl_L_45 : Cond.classLink "EqualTermsLaw" 45 "EqualTermsModel" ∈ et_W := et_in 673 (by decide +kernel) (by decide +kernel)
theorem ins_M : Cond.instantiable "EqualTermsModel" 33 ∈ et_W := et_in 674 (by decide +kernel) (by decide +kernel)
theorem lk_L_47 : et_lk "EqualTermsLaw" 47 (Y_M_init).1 := Or.inl (et_in 675 (by decide +kernel) (by decide +kernel))
theorem lk_M_1 : et_lk "EqualTermsModel" 1 (Y_O_init).1 := Or.inl (et_in 678 (by decide +kernel) (by decide +kernel))
theorem fl_M_72 : Cond.fieldLink "EqualTermsModel" 72 "EqualTermsModel" "thrown" "I" ∈ et_W := et_in 679 (by decide +kernel) (by decide +kernel)
theorem fl_M_7 : Cond.fieldLink "EqualTermsModel" 7 "EqualTermsModel" "text" "[I" ∈ et_W := et_in 680 (by decide +kernel) (by decide +kernel)
theorem fl_M_79 : Cond.fieldLink "EqualTermsModel" 79 "EqualTermsModel" "length" "I" ∈ et_W := et_in 681 (by decide +kernel) (by decide +kernel)
theorem fl_M_88 : Cond.fieldLink "EqualTermsModel" 88 "EqualTermsModel" "at" "I" ∈ et_W := et_in 682 (by decide +kernel) (by decide +kernel)
theorem fl_M_13 : Cond.fieldLink "EqualTermsModel" 13 "EqualTermsModel" "wrong" "I" ∈ et_W := et_in 683 (by decide +kernel) (by decide +kernel)
theorem fl_M_91 : Cond.fieldLink "EqualTermsModel" 91 "EqualTermsModel" "end" "I" ∈ et_W := et_in 684 (by decide +kernel) (by decide +kernel)
theorem fl_M_102 : Cond.fieldLink "EqualTermsModel" 102 "EqualTermsModel" "seen" "I" ∈ et_W := et_in 685 (by decide +kernel) (by decide +kernel)
theorem fl_M_113 : Cond.fieldLink "EqualTermsModel" 113 "EqualTermsModel" "rules" "I" ∈ et_W := et_in 686 (by decide +kernel) (by decide +kernel)
theorem fl_M_17 : Cond.fieldLink "EqualTermsModel" 17 "EqualTermsModel" "sides" "[I" ∈ et_W := et_in 687 (by decide +kernel) (by decide +kernel)
theorem fl_M_20 : Cond.fieldLink "EqualTermsModel" 20 "EqualTermsModel" "sizes" "[I" ∈ et_W := et_in 688 (by decide +kernel) (by decide +kernel)
theorem fl_M_119 : Cond.fieldLink "EqualTermsModel" 119 "EqualTermsModel" "nodes" "I" ∈ et_W := et_in 689 (by decide +kernel) (by decide +kernel)
theorem fl_M_126 : Cond.fieldLink "EqualTermsModel" 126 "EqualTermsModel" "classes" "I" ∈ et_W := et_in 690 (by decide +kernel) (by decide +kernel)
theorem fl_M_23 : Cond.fieldLink "EqualTermsModel" 23 "EqualTermsModel" "sign" "[I" ∈ et_W := et_in 691 (by decide +kernel) (by decide +kernel)
theorem fl_M_26 : Cond.fieldLink "EqualTermsModel" 26 "EqualTermsModel" "first" "[I" ∈ et_W := et_in 692 (by decide +kernel) (by decide +kernel)
theorem fl_M_29 : Cond.fieldLink "EqualTermsModel" 29 "EqualTermsModel" "second" "[I" ∈ et_W := et_in 693 (by decide +kernel) (by decide +kernel)
theorem fl_M_32 : Cond.fieldLink "EqualTermsModel" 32 "EqualTermsModel" "owner" "[I" ∈ et_W := et_in 694 (by decide +kernel) (by decide +kernel)
theorem fl_M_35 : Cond.fieldLink "EqualTermsModel" 35 "EqualTermsModel" "label" "[I" ∈ et_W := et_in 695 (by decide +kernel) (by decide +kernel)
theorem fl_M_38 : Cond.fieldLink "EqualTermsModel" 38 "EqualTermsModel" "renamed" "[I" ∈ et_W := et_in 696 (by decide +kernel) (by decide +kernel)
theorem fl_M_139 : Cond.fieldLink "EqualTermsModel" 139 "EqualTermsModel" "united" "Z" ∈ et_W := et_in 697 (by decide +kernel) (by decide +kernel)
theorem fl_M_41 : Cond.fieldLink "EqualTermsModel" 41 "EqualTermsModel" "row" "[I" ∈ et_W := et_in 698 (by decide +kernel) (by decide +kernel)
theorem fl_M_129 : Cond.fieldLink "EqualTermsModel" 129 "EqualTermsModel" "rowSize" "I" ∈ et_W := et_in 699 (by decide +kernel) (by decide +kernel)
theorem fl_M_44 : Cond.fieldLink "EqualTermsModel" 44 "EqualTermsModel" "variable" "[I" ∈ et_W := et_in 700 (by decide +kernel) (by decide +kernel)
theorem fl_M_47 : Cond.fieldLink "EqualTermsModel" 47 "EqualTermsModel" "leaf" "[I" ∈ et_W := et_in 701 (by decide +kernel) (by decide +kernel)
theorem fl_M_50 : Cond.fieldLink "EqualTermsModel" 50 "EqualTermsModel" "unary" "[I" ∈ et_W := et_in 702 (by decide +kernel) (by decide +kernel)
theorem fl_M_53 : Cond.fieldLink "EqualTermsModel" 53 "EqualTermsModel" "binary" "[I" ∈ et_W := et_in 703 (by decide +kernel) (by decide +kernel)
theorem fl_M_56 : Cond.fieldLink "EqualTermsModel" 56 "EqualTermsModel" "prices" "[I" ∈ et_W := et_in 704 (by decide +kernel) (by decide +kernel)
theorem fl_M_59 : Cond.fieldLink "EqualTermsModel" 59 "EqualTermsModel" "cost" "[J" ∈ et_W := et_in 705 (by decide +kernel) (by decide +kernel)
theorem fl_M_63 : Cond.fieldLink "EqualTermsModel" 63 "EqualTermsModel" "size" "[J" ∈ et_W := et_in 706 (by decide +kernel) (by decide +kernel)
theorem fl_M_66 : Cond.fieldLink "EqualTermsModel" 66 "EqualTermsModel" "best" "[I" ∈ et_W := et_in 707 (by decide +kernel) (by decide +kernel)
theorem fl_M_69 : Cond.fieldLink "EqualTermsModel" 69 "EqualTermsModel" "draft" "[I" ∈ et_W := et_in 708 (by decide +kernel) (by decide +kernel)
theorem fl_M_203 : Cond.fieldLink "EqualTermsModel" 203 "EqualTermsModel" "draftCost" "J" ∈ et_W := et_in 709 (by decide +kernel) (by decide +kernel)
theorem fl_M_211 : Cond.fieldLink "EqualTermsModel" 211 "EqualTermsModel" "draftSize" "J" ∈ et_W := et_in 710 (by decide +kernel) (by decide +kernel)
theorem lk_L_73 : et_lk "EqualTermsLaw" 73 (Y_M_thrown).1 := Or.inl (et_in 778 (by decide +kernel) (by decide +kernel))
theorem lk_L_54 : et_lk "EqualTermsLaw" 54 (Y_M_type).1 := Or.inl (et_in 782 (by decide +kernel) (by decide +kernel))
theorem lk_M_75 : et_lk "EqualTermsModel" 75 (Y_M_within).1 := Or.inl (et_in 786 (by decide +kernel) (by decide +kernel))
theorem kl_M_82 : Cond.constantLong "EqualTermsModel" 82 255 ∈ et_W := et_in 789 (by decide +kernel) (by decide +kernel)
theorem kl_M_84 : Cond.constantLong "EqualTermsModel" 84 33 ∈ et_W := et_in 790 (by decide +kernel) (by decide +kernel)
theorem kl_M_86 : Cond.constantLong "EqualTermsModel" 86 126 ∈ et_W := et_in 791 (by decide +kernel) (by decide +kernel)
theorem lk_L_58 : et_lk "EqualTermsLaw" 58 (Y_M_wipe).1 := Or.inl (et_in 792 (by decide +kernel) (by decide +kernel))
theorem lk_L_62 : et_lk "EqualTermsLaw" 62 (Y_M_character).1 := Or.inl (et_in 796 (by decide +kernel) (by decide +kernel))
theorem lk_L_66 : et_lk "EqualTermsLaw" 66 (Y_M_place).1 := Or.inl (et_in 800 (by decide +kernel) (by decide +kernel))
theorem lk_L_72 : et_lk "EqualTermsLaw" 72 (Y_M_rule).1 := Or.inl (et_in 804 (by decide +kernel) (by decide +kernel))
theorem lk_M_109 : et_lk "EqualTermsModel" 109 (Y_M_readBoth).1 := Or.inl (et_in 808 (by decide +kernel) (by decide +kernel))
theorem lk_M_105 : et_lk "EqualTermsModel" 105 (Y_M_readSide).1 := Or.inl (et_in 812 (by decide +kernel) (by decide +kernel))
theorem lk_M_94 : et_lk "EqualTermsModel" 94 (Y_M_fail).1 := Or.inl (et_in 816 (by decide +kernel) (by decide +kernel))
theorem lk_M_98 : et_lk "EqualTermsModel" 98 (Y_M_takes).1 := Or.inl (et_in 820 (by decide +kernel) (by decide +kernel))
theorem lk_M_116 : et_lk "EqualTermsModel" 116 (Y_M_refuse).1 := Or.inl (et_in 823 (by decide +kernel) (by decide +kernel))
theorem lk_L_78 : et_lk "EqualTermsLaw" 78 (Y_M_add).1 := Or.inl (et_in 827 (by decide +kernel) (by decide +kernel))
theorem lk_M_157 : et_lk "EqualTermsModel" 157 (Y_M_readTerm).1 := Or.inl (et_in 831 (by decide +kernel) (by decide +kernel))
theorem lk_M_160 : et_lk "EqualTermsModel" 160 (Y_M_workText).1 := Or.inl (et_in 835 (by decide +kernel) (by decide +kernel))
theorem lk_M_136 : et_lk "EqualTermsModel" 136 (Y_M_push).1 := Or.inl (et_in 839 (by decide +kernel) (by decide +kernel))
theorem lk_M_132 : et_lk "EqualTermsModel" 132 (Y_M_classOf).1 := Or.inl (et_in 843 (by decide +kernel) (by decide +kernel))
theorem lk_M_122 : et_lk "EqualTermsModel" 122 (Y_M_findNode).1 := Or.inl (et_in 847 (by decide +kernel) (by decide +kernel))
theorem lk_M_163 : et_lk "EqualTermsModel" 163 (Y_M_cut).1 := Or.inl (et_in 851 (by decide +kernel) (by decide +kernel))
theorem lk_L_81 : et_lk "EqualTermsLaw" 81 (Y_M_unite).1 := Or.inl (et_in 855 (by decide +kernel) (by decide +kernel))
theorem lk_M_146 : et_lk "EqualTermsModel" 146 (Y_M_joinClasses).1 := Or.inl (et_in 859 (by decide +kernel) (by decide +kernel))
theorem lk_M_166 : et_lk "EqualTermsModel" 166 (Y_M_close).1 := Or.inl (et_in 863 (by decide +kernel) (by decide +kernel))
theorem lk_M_143 : et_lk "EqualTermsModel" 143 (Y_M_labelOf).1 := Or.inl (et_in 867 (by decide +kernel) (by decide +kernel))
theorem lk_M_150 : et_lk "EqualTermsModel" 150 (Y_M_removeNode).1 := Or.inl (et_in 871 (by decide +kernel) (by decide +kernel))
theorem lk_M_154 : et_lk "EqualTermsModel" 154 (Y_M_renumber).1 := Or.inl (et_in 875 (by decide +kernel) (by decide +kernel))
theorem lk_L_84 : et_lk "EqualTermsLaw" 84 (Y_M_same).1 := Or.inl (et_in 879 (by decide +kernel) (by decide +kernel))
theorem lk_L_88 : et_lk "EqualTermsLaw" 88 (Y_M_price).1 := Or.inl (et_in 883 (by decide +kernel) (by decide +kernel))
theorem kc_M_169 : Cond.constant "EqualTermsModel" 169 1000000000 ∈ et_W := et_in 887 (by decide +kernel) (by decide +kernel)
theorem lk_L_92 : et_lk "EqualTermsLaw" 92 (Y_M_rounds).1 := Or.inl (et_in 888 (by decide +kernel) (by decide +kernel))
theorem lk_M_192 : et_lk "EqualTermsModel" 192 (Y_M_oneRound).1 := Or.inl (et_in 892 (by decide +kernel) (by decide +kernel))
theorem lk_M_186 : et_lk "EqualTermsModel" 186 (Y_M_fillTables).1 := Or.inl (et_in 896 (by decide +kernel) (by decide +kernel))
theorem lk_M_170 : et_lk "EqualTermsModel" 170 (Y_M_kindOf).1 := Or.inl (et_in 900 (by decide +kernel) (by decide +kernel))
theorem lk_M_189 : et_lk "EqualTermsModel" 189 (Y_M_fit).1 := Or.inl (et_in 903 (by decide +kernel) (by decide +kernel))
theorem lk_M_173 : et_lk "EqualTermsModel" 173 (Y_M_variablesOf).1 := Or.inl (et_in 907 (by decide +kernel) (by decide +kernel))
theorem lk_M_176 : et_lk "EqualTermsModel" 176 (Y_M_tabled).1 := Or.inl (et_in 911 (by decide +kernel) (by decide +kernel))
theorem lk_M_179 : et_lk "EqualTermsModel" 179 (Y_M_workSide).1 := Or.inl (et_in 915 (by decide +kernel) (by decide +kernel))
theorem lk_M_183 : et_lk "EqualTermsModel" 183 (Y_M_nextChoice).1 := Or.inl (et_in 919 (by decide +kernel) (by decide +kernel))
theorem lk_L_96 : et_lk "EqualTermsLaw" 96 (Y_M_nodes).1 := Or.inl (et_in 923 (by decide +kernel) (by decide +kernel))
theorem lk_L_100 : et_lk "EqualTermsLaw" 100 (Y_M_classes).1 := Or.inl (et_in 927 (by decide +kernel) (by decide +kernel))
theorem lk_L_103 : et_lk "EqualTermsLaw" 103 (Y_M_members).1 := Or.inl (et_in 931 (by decide +kernel) (by decide +kernel))
theorem lk_M_196 : et_lk "EqualTermsModel" 196 (Y_M_asked).1 := Or.inl (et_in 935 (by decide +kernel) (by decide +kernel))
theorem lk_L_106 : et_lk "EqualTermsLaw" 106 (Y_M_cost).1 := Or.inl (et_in 939 (by decide +kernel) (by decide +kernel))
theorem kl_M_223 : Cond.constantLong "EqualTermsModel" 223 (-1) ∈ et_W := et_in 943 (by decide +kernel) (by decide +kernel)
theorem lk_M_225 : et_lk "EqualTermsModel" 225 (Y_M_findBest).1 := Or.inl (et_in 944 (by decide +kernel) (by decide +kernel))
theorem kl_M_201 : Cond.constantLong "EqualTermsModel" 201 4611686018427387905 ∈ et_W := et_in 948 (by decide +kernel) (by decide +kernel)
theorem lk_M_216 : et_lk "EqualTermsModel" 216 (Y_M_append).1 := Or.inl (et_in 949 (by decide +kernel) (by decide +kernel))
theorem lk_M_207 : et_lk "EqualTermsModel" 207 (Y_M_sum).1 := Or.inl (et_in 953 (by decide +kernel) (by decide +kernel))
theorem kl_M_199 : Cond.constantLong "EqualTermsModel" 199 4611686018427387904 ∈ et_W := et_in 956 (by decide +kernel) (by decide +kernel)
theorem kl_M_214 : Cond.constantLong "EqualTermsModel" 214 60 ∈ et_W := et_in 957 (by decide +kernel) (by decide +kernel)
theorem lk_M_219 : et_lk "EqualTermsModel" 219 (Y_M_isBetter).1 := Or.inl (et_in 958 (by decide +kernel) (by decide +kernel))
theorem kl_M_228 : Cond.constantLong "EqualTermsModel" 228 (-3) ∈ et_W := et_in 962 (by decide +kernel) (by decide +kernel)
theorem lk_L_109 : et_lk "EqualTermsLaw" 109 (Y_M_best).1 := Or.inl (et_in 963 (by decide +kernel) (by decide +kernel))
theorem kl_L_48 : Cond.constantLong "EqualTermsLaw" 48 4294967295 ∈ et_W := et_in 967 (by decide +kernel) (by decide +kernel)
theorem len_E_init : (parseMethodDescriptor (Y_E_init).1.desc).map (fun d => d.parameters.length) = some 0 := by decide +kernel
theorem len_O_init : (parseMethodDescriptor (Y_O_init).1.desc).map (fun d => d.parameters.length) = some 0 := by decide +kernel
theorem len_T_init : (parseMethodDescriptor (Y_T_init).1.desc).map (fun d => d.parameters.length) = some 0 := by decide +kernel
theorem len_G_init : (parseMethodDescriptor (Y_G_init).1.desc).map (fun d => d.parameters.length) = some 0 := by decide +kernel
theorem len_K_init : (parseMethodDescriptor (Y_K_init).1.desc).map (fun d => d.parameters.length) = some 1 := by decide +kernel
theorem len_R_init : (parseMethodDescriptor (Y_R_init).1.desc).map (fun d => d.parameters.length) = some 2 := by decide +kernel
theorem len_C_init : (parseMethodDescriptor (Y_C_init).1.desc).map (fun d => d.parameters.length) = some 1 := by decide +kernel
theorem len_A_fill_II : (parseMethodDescriptor (Y_A_fill_II).1.desc).map (fun d => d.parameters.length) = some 2 := by decide +kernel
theorem len_E_type : (parseMethodDescriptor (Y_E_type).1.desc).map (fun d => d.parameters.length) = some 2 := by decide +kernel
theorem len_T_append : (parseMethodDescriptor (Y_T_append).1.desc).map (fun d => d.parameters.length) = some 2 := by decide +kernel
theorem len_T_byteAt : (parseMethodDescriptor (Y_T_byteAt).1.desc).map (fun d => d.parameters.length) = some 2 := by decide +kernel
theorem len_E_wipe : (parseMethodDescriptor (Y_E_wipe).1.desc).map (fun d => d.parameters.length) = some 0 := by decide +kernel
theorem len_T_clear : (parseMethodDescriptor (Y_T_clear).1.desc).map (fun d => d.parameters.length) = some 0 := by decide +kernel
theorem len_E_character : (parseMethodDescriptor (Y_E_character).1.desc).map (fun d => d.parameters.length) = some 1 := by decide +kernel
theorem len_E_place : (parseMethodDescriptor (Y_E_place).1.desc).map (fun d => d.parameters.length) = some 0 := by decide +kernel
theorem len_E_nodes : (parseMethodDescriptor (Y_E_nodes).1.desc).map (fun d => d.parameters.length) = some 0 := by decide +kernel
theorem len_E_classes : (parseMethodDescriptor (Y_E_classes).1.desc).map (fun d => d.parameters.length) = some 0 := by decide +kernel
theorem len_L_rule : (parseMethodDescriptor (Y_L_rule).1.desc).map (fun d => d.parameters.length) = some 2 := by decide +kernel
theorem len_E_rule : (parseMethodDescriptor (Y_E_rule).1.desc).map (fun d => d.parameters.length) = some 0 := by decide +kernel
theorem len_T_isRule : (parseMethodDescriptor (Y_T_isRule).1.desc).map (fun d => d.parameters.length) = some 0 := by decide +kernel
theorem len_T_firstWrong : (parseMethodDescriptor (Y_T_firstWrong).1.desc).map (fun d => d.parameters.length) = some 2 := by decide +kernel
theorem len_T_partsInRule : (parseMethodDescriptor (Y_T_partsInRule).1.desc).map (fun d => d.parameters.length) = some 1 := by decide +kernel
theorem len_S_isVariable : (parseMethodDescriptor (Y_S_isVariable).1.desc).map (fun d => d.parameters.length) = some 1 := by decide +kernel
theorem len_T_inFirstSide : (parseMethodDescriptor (Y_T_inFirstSide).1.desc).map (fun d => d.parameters.length) = some 1 := by decide +kernel
theorem len_S_partsInPattern : (parseMethodDescriptor (Y_S_partsInPattern).1.desc).map (fun d => d.parameters.length) = some 1 := by decide +kernel
theorem len_S_parts : (parseMethodDescriptor (Y_S_parts).1.desc).map (fun d => d.parameters.length) = some 1 := by decide +kernel
theorem len_T_noteWrong : (parseMethodDescriptor (Y_T_noteWrong).1.desc).map (fun d => d.parameters.length) = some 1 := by decide +kernel
theorem len_U_init : (parseMethodDescriptor (Y_U_init).1.desc).map (fun d => d.parameters.length) = some 1 := by decide +kernel
theorem len_A_copyOf : (parseMethodDescriptor (Y_A_copyOf).1.desc).map (fun d => d.parameters.length) = some 2 := by decide +kernel
theorem len_H_min : (parseMethodDescriptor (Y_H_min).1.desc).map (fun d => d.parameters.length) = some 2 := by decide +kernel
theorem len_U_endOfPattern : (parseMethodDescriptor (Y_U_endOfPattern).1.desc).map (fun d => d.parameters.length) = some 2 := by decide +kernel
theorem len_L_add : (parseMethodDescriptor (Y_L_add).1.desc).map (fun d => d.parameters.length) = some 2 := by decide +kernel
theorem len_E_add : (parseMethodDescriptor (Y_E_add).1.desc).map (fun d => d.parameters.length) = some 0 := by decide +kernel
theorem len_E_demandTerm : (parseMethodDescriptor (Y_E_demandTerm).1.desc).map (fun d => d.parameters.length) = some 0 := by decide +kernel
theorem len_T_isTerm : (parseMethodDescriptor (Y_T_isTerm).1.desc).map (fun d => d.parameters.length) = some 0 := by decide +kernel
theorem len_K_classOf : (parseMethodDescriptor (Y_K_classOf).1.desc).map (fun d => d.parameters.length) = some 4 := by decide +kernel
theorem len_G_homeOf : (parseMethodDescriptor (Y_G_homeOf).1.desc).map (fun d => d.parameters.length) = some 4 := by decide +kernel
theorem len_G_nodeAmong : (parseMethodDescriptor (Y_G_nodeAmong).1.desc).map (fun d => d.parameters.length) = some 4 := by decide +kernel
theorem len_G_putNode : (parseMethodDescriptor (Y_G_putNode).1.desc).map (fun d => d.parameters.length) = some 5 := by decide +kernel
theorem len_G_goBack : (parseMethodDescriptor (Y_G_goBack).1.desc).map (fun d => d.parameters.length) = some 2 := by decide +kernel
theorem len_G_nameAllByNumber : (parseMethodDescriptor (Y_G_nameAllByNumber).1.desc).map (fun d => d.parameters.length) = some 0 := by decide +kernel
theorem len_L_unite : (parseMethodDescriptor (Y_L_unite).1.desc).map (fun d => d.parameters.length) = some 2 := by decide +kernel
theorem len_E_unite : (parseMethodDescriptor (Y_E_unite).1.desc).map (fun d => d.parameters.length) = some 0 := by decide +kernel
theorem len_E_demandEquation : (parseMethodDescriptor (Y_E_demandEquation).1.desc).map (fun d => d.parameters.length) = some 0 := by decide +kernel
theorem len_T_isEquation : (parseMethodDescriptor (Y_T_isEquation).1.desc).map (fun d => d.parameters.length) = some 0 := by decide +kernel
theorem len_G_join : (parseMethodDescriptor (Y_G_join).1.desc).map (fun d => d.parameters.length) = some 2 := by decide +kernel
theorem len_G_settle : (parseMethodDescriptor (Y_G_settle).1.desc).map (fun d => d.parameters.length) = some 0 := by decide +kernel
theorem len_G_rename : (parseMethodDescriptor (Y_G_rename).1.desc).map (fun d => d.parameters.length) = some 0 := by decide +kernel
theorem len_G_mergeTwins : (parseMethodDescriptor (Y_G_mergeTwins).1.desc).map (fun d => d.parameters.length) = some 0 := by decide +kernel
theorem len_G_renumber : (parseMethodDescriptor (Y_G_renumber).1.desc).map (fun d => d.parameters.length) = some 0 := by decide +kernel
theorem len_L_same : (parseMethodDescriptor (Y_L_same).1.desc).map (fun d => d.parameters.length) = some 2 := by decide +kernel
theorem len_E_same : (parseMethodDescriptor (Y_E_same).1.desc).map (fun d => d.parameters.length) = some 0 := by decide +kernel
theorem len_L_price : (parseMethodDescriptor (Y_L_price).1.desc).map (fun d => d.parameters.length) = some 3 := by decide +kernel
theorem len_E_price : (parseMethodDescriptor (Y_E_price).1.desc).map (fun d => d.parameters.length) = some 2 := by decide +kernel
theorem len_L_rounds : (parseMethodDescriptor (Y_L_rounds).1.desc).map (fun d => d.parameters.length) = some 3 := by decide +kernel
theorem len_E_rounds : (parseMethodDescriptor (Y_E_rounds).1.desc).map (fun d => d.parameters.length) = some 1 := by decide +kernel
theorem len_R_fitAll : (parseMethodDescriptor (Y_R_fitAll).1.desc).map (fun d => d.parameters.length) = some 2 := by decide +kernel
theorem len_R_listNodes : (parseMethodDescriptor (Y_R_listNodes).1.desc).map (fun d => d.parameters.length) = some 0 := by decide +kernel
theorem len_R_fitFrom : (parseMethodDescriptor (Y_R_fitFrom).1.desc).map (fun d => d.parameters.length) = some 2 := by decide +kernel
theorem len_R_joinSides : (parseMethodDescriptor (Y_R_joinSides).1.desc).map (fun d => d.parameters.length) = some 1 := by decide +kernel
theorem len_R_seatParts : (parseMethodDescriptor (Y_R_seatParts).1.desc).map (fun d => d.parameters.length) = some 3 := by decide +kernel
theorem len_L_members : (parseMethodDescriptor (Y_L_members).1.desc).map (fun d => d.parameters.length) = some 2 := by decide +kernel
theorem len_E_members : (parseMethodDescriptor (Y_E_members).1.desc).map (fun d => d.parameters.length) = some 0 := by decide +kernel
theorem len_E_takeTerm : (parseMethodDescriptor (Y_E_takeTerm).1.desc).map (fun d => d.parameters.length) = some 0 := by decide +kernel
theorem len_G_sizeOf : (parseMethodDescriptor (Y_G_sizeOf).1.desc).map (fun d => d.parameters.length) = some 1 := by decide +kernel
theorem len_L_cost : (parseMethodDescriptor (Y_L_cost).1.desc).map (fun d => d.parameters.length) = some 2 := by decide +kernel
theorem len_E_cost : (parseMethodDescriptor (Y_E_cost).1.desc).map (fun d => d.parameters.length) = some 0 := by decide +kernel
theorem len_C_weigh : (parseMethodDescriptor (Y_C_weigh).1.desc).map (fun d => d.parameters.length) = some 0 := by decide +kernel
theorem len_A_fill_JJ : (parseMethodDescriptor (Y_A_fill_JJ).1.desc).map (fun d => d.parameters.length) = some 2 := by decide +kernel
theorem len_C_weighNode : (parseMethodDescriptor (Y_C_weighNode).1.desc).map (fun d => d.parameters.length) = some 1 := by decide +kernel
theorem len_C_costThrough : (parseMethodDescriptor (Y_C_costThrough).1.desc).map (fun d => d.parameters.length) = some 1 := by decide +kernel
theorem len_C_sum : (parseMethodDescriptor (Y_C_sum).1.desc).map (fun d => d.parameters.length) = some 2 := by decide +kernel
theorem len_C_lengthThrough : (parseMethodDescriptor (Y_C_lengthThrough).1.desc).map (fun d => d.parameters.length) = some 1 := by decide +kernel
theorem len_L_best : (parseMethodDescriptor (Y_L_best).1.desc).map (fun d => d.parameters.length) = some 2 := by decide +kernel
theorem len_E_best : (parseMethodDescriptor (Y_E_best).1.desc).map (fun d => d.parameters.length) = some 0 := by decide +kernel
theorem len_C_spell : (parseMethodDescriptor (Y_C_spell).1.desc).map (fun d => d.parameters.length) = some 1 := by decide +kernel
theorem len_C_isBest : (parseMethodDescriptor (Y_C_isBest).1.desc).map (fun d => d.parameters.length) = some 1 := by decide +kernel
theorem len_C_spellNode : (parseMethodDescriptor (Y_C_spellNode).1.desc).map (fun d => d.parameters.length) = some 2 := by decide +kernel
theorem len_C_appendTerm : (parseMethodDescriptor (Y_C_appendTerm).1.desc).map (fun d => d.parameters.length) = some 2 := by decide +kernel
theorem len_C_trialComesBefore : (parseMethodDescriptor (Y_C_trialComesBefore).1.desc).map (fun d => d.parameters.length) = some 2 := by decide +kernel
theorem len_T_become : (parseMethodDescriptor (Y_T_become).1.desc).map (fun d => d.parameters.length) = some 2 := by decide +kernel
theorem len_M_init : (parseMethodDescriptor (Y_M_init).1.desc).map (fun d => d.parameters.length) = some 0 := by decide +kernel
theorem len_M_thrown : (parseMethodDescriptor (Y_M_thrown).1.desc).map (fun d => d.parameters.length) = some 0 := by decide +kernel
theorem len_M_type : (parseMethodDescriptor (Y_M_type).1.desc).map (fun d => d.parameters.length) = some 2 := by decide +kernel
theorem len_M_within : (parseMethodDescriptor (Y_M_within).1.desc).map (fun d => d.parameters.length) = some 3 := by decide +kernel
theorem len_M_wipe : (parseMethodDescriptor (Y_M_wipe).1.desc).map (fun d => d.parameters.length) = some 0 := by decide +kernel
theorem len_M_character : (parseMethodDescriptor (Y_M_character).1.desc).map (fun d => d.parameters.length) = some 1 := by decide +kernel
theorem len_M_place : (parseMethodDescriptor (Y_M_place).1.desc).map (fun d => d.parameters.length) = some 0 := by decide +kernel
theorem len_M_rule : (parseMethodDescriptor (Y_M_rule).1.desc).map (fun d => d.parameters.length) = some 0 := by decide +kernel
theorem len_M_readBoth : (parseMethodDescriptor (Y_M_readBoth).1.desc).map (fun d => d.parameters.length) = some 2 := by decide +kernel
theorem len_M_readSide : (parseMethodDescriptor (Y_M_readSide).1.desc).map (fun d => d.parameters.length) = some 2 := by decide +kernel
theorem len_M_fail : (parseMethodDescriptor (Y_M_fail).1.desc).map (fun d => d.parameters.length) = some 0 := by decide +kernel
theorem len_M_takes : (parseMethodDescriptor (Y_M_takes).1.desc).map (fun d => d.parameters.length) = some 1 := by decide +kernel
theorem len_M_refuse : (parseMethodDescriptor (Y_M_refuse).1.desc).map (fun d => d.parameters.length) = some 1 := by decide +kernel
theorem len_M_add : (parseMethodDescriptor (Y_M_add).1.desc).map (fun d => d.parameters.length) = some 0 := by decide +kernel
theorem len_M_readTerm : (parseMethodDescriptor (Y_M_readTerm).1.desc).map (fun d => d.parameters.length) = some 0 := by decide +kernel
theorem len_M_workText : (parseMethodDescriptor (Y_M_workText).1.desc).map (fun d => d.parameters.length) = some 3 := by decide +kernel
theorem len_M_push : (parseMethodDescriptor (Y_M_push).1.desc).map (fun d => d.parameters.length) = some 2 := by decide +kernel
theorem len_M_classOf : (parseMethodDescriptor (Y_M_classOf).1.desc).map (fun d => d.parameters.length) = some 4 := by decide +kernel
theorem len_M_findNode : (parseMethodDescriptor (Y_M_findNode).1.desc).map (fun d => d.parameters.length) = some 3 := by decide +kernel
theorem len_M_cut : (parseMethodDescriptor (Y_M_cut).1.desc).map (fun d => d.parameters.length) = some 2 := by decide +kernel
theorem len_M_unite : (parseMethodDescriptor (Y_M_unite).1.desc).map (fun d => d.parameters.length) = some 0 := by decide +kernel
theorem len_M_joinClasses : (parseMethodDescriptor (Y_M_joinClasses).1.desc).map (fun d => d.parameters.length) = some 2 := by decide +kernel
theorem len_M_close : (parseMethodDescriptor (Y_M_close).1.desc).map (fun d => d.parameters.length) = some 0 := by decide +kernel
theorem len_M_labelOf : (parseMethodDescriptor (Y_M_labelOf).1.desc).map (fun d => d.parameters.length) = some 1 := by decide +kernel
theorem len_M_removeNode : (parseMethodDescriptor (Y_M_removeNode).1.desc).map (fun d => d.parameters.length) = some 1 := by decide +kernel
theorem len_M_renumber : (parseMethodDescriptor (Y_M_renumber).1.desc).map (fun d => d.parameters.length) = some 0 := by decide +kernel
theorem len_M_same : (parseMethodDescriptor (Y_M_same).1.desc).map (fun d => d.parameters.length) = some 0 := by decide +kernel
theorem len_M_price : (parseMethodDescriptor (Y_M_price).1.desc).map (fun d => d.parameters.length) = some 2 := by decide +kernel
theorem len_M_rounds : (parseMethodDescriptor (Y_M_rounds).1.desc).map (fun d => d.parameters.length) = some 1 := by decide +kernel
theorem len_M_oneRound : (parseMethodDescriptor (Y_M_oneRound).1.desc).map (fun d => d.parameters.length) = some 0 := by decide +kernel
theorem len_M_fillTables : (parseMethodDescriptor (Y_M_fillTables).1.desc).map (fun d => d.parameters.length) = some 0 := by decide +kernel
theorem len_M_kindOf : (parseMethodDescriptor (Y_M_kindOf).1.desc).map (fun d => d.parameters.length) = some 1 := by decide +kernel
theorem len_M_fit : (parseMethodDescriptor (Y_M_fit).1.desc).map (fun d => d.parameters.length) = some 2 := by decide +kernel
theorem len_M_variablesOf : (parseMethodDescriptor (Y_M_variablesOf).1.desc).map (fun d => d.parameters.length) = some 1 := by decide +kernel
theorem len_M_tabled : (parseMethodDescriptor (Y_M_tabled).1.desc).map (fun d => d.parameters.length) = some 1 := by decide +kernel
theorem len_M_workSide : (parseMethodDescriptor (Y_M_workSide).1.desc).map (fun d => d.parameters.length) = some 2 := by decide +kernel
theorem len_M_nextChoice : (parseMethodDescriptor (Y_M_nextChoice).1.desc).map (fun d => d.parameters.length) = some 2 := by decide +kernel
theorem len_M_nodes : (parseMethodDescriptor (Y_M_nodes).1.desc).map (fun d => d.parameters.length) = some 0 := by decide +kernel
theorem len_M_classes : (parseMethodDescriptor (Y_M_classes).1.desc).map (fun d => d.parameters.length) = some 0 := by decide +kernel
theorem len_M_members : (parseMethodDescriptor (Y_M_members).1.desc).map (fun d => d.parameters.length) = some 0 := by decide +kernel
theorem len_M_asked : (parseMethodDescriptor (Y_M_asked).1.desc).map (fun d => d.parameters.length) = some 0 := by decide +kernel
theorem len_M_cost : (parseMethodDescriptor (Y_M_cost).1.desc).map (fun d => d.parameters.length) = some 0 := by decide +kernel
theorem len_M_findBest : (parseMethodDescriptor (Y_M_findBest).1.desc).map (fun d => d.parameters.length) = some 0 := by decide +kernel
theorem len_M_append : (parseMethodDescriptor (Y_M_append).1.desc).map (fun d => d.parameters.length) = some 1 := by decide +kernel
theorem len_M_sum : (parseMethodDescriptor (Y_M_sum).1.desc).map (fun d => d.parameters.length) = some 2 := by decide +kernel
theorem len_M_isBetter : (parseMethodDescriptor (Y_M_isBetter).1.desc).map (fun d => d.parameters.length) = some 1 := by decide +kernel
theorem len_M_best : (parseMethodDescriptor (Y_M_best).1.desc).map (fun d => d.parameters.length) = some 0 := by decide +kernel
theorem ca_0 : Cond.castable (et_exn 0) (et_exn 0) ∈ et_NST := by decide +kernel
theorem thr_0 : et_thr "EqualTerms" 83 (et_exn 0) := by unfold et_thr; decide +kernel
theorem ca_1 : Cond.castable (et_exn 1) (et_exn 1) ∈ et_NST := by decide +kernel
theorem thr_1 : et_thr "EqualTerms" 90 (et_exn 1) := by unfold et_thr; decide +kernel
theorem ob_inst : Cond.instanceMethod Lib.objectInit ∈ et_W := et_in 75 (by decide +kernel) (by decide +kernel)
set_option maxRecDepth 100000 in
theorem ob_code : Cond.code Lib.objectInit ⟨#[0xb1]⟩ 1 none ∈ et_W := et_in 76 rfl rfl
theorem sy_nat : Cond.native arraycopyName ∈ et_W := et_in 430 (by decide +kernel) (by decide +kernel)
theorem sy_stat : Cond.static arraycopyName ∈ et_W := et_in 429 (by decide +kernel) (by decide +kernel)
end
section
theorem d_T_init_0 : decode prog_7_method_1_code 0 = .ok (.aload_n 0, 1) := by decide +kernel
theorem d_T_init_1 : decode prog_7_method_1_code 1 = .ok (.invokespecial 3, 3) := by decide +kernel
theorem d_T_init_4 : decode prog_7_method_1_code 4 = .ok (.aload_n 0, 1) := by decide +kernel
theorem d_T_init_5 : decode prog_7_method_1_code 5 = .ok (.bipush 60, 2) := by decide +kernel
theorem d_T_init_7 : decode prog_7_method_1_code 7 = .ok (.newarray .int, 2) := by decide +kernel
theorem d_T_init_9 : decode prog_7_method_1_code 9 = .ok (.putfield 9, 3) := by decide +kernel
theorem d_T_init_12 : decode prog_7_method_1_code 12 = .ok (.aload_n 0, 1) := by decide +kernel
theorem d_T_init_13 : decode prog_7_method_1_code 13 = .ok (.iconst 0, 1) := by decide +kernel
theorem d_T_init_14 : decode prog_7_method_1_code 14 = .ok (.putfield 15, 3) := by decide +kernel
theorem d_T_init_17 : decode prog_7_method_1_code 17 = .ok (.aload_n 0, 1) := by decide +kernel
theorem d_T_init_18 : decode prog_7_method_1_code 18 = .ok (.iconst (-1), 1) := by decide +kernel
theorem d_T_init_19 : decode prog_7_method_1_code 19 = .ok (.putfield 19, 3) := by decide +kernel
theorem d_T_init_22 : decode prog_7_method_1_code 22 = .ok (.aload_n 0, 1) := by decide +kernel
theorem d_T_init_23 : decode prog_7_method_1_code 23 = .ok (.iconst (-1), 1) := by decide +kernel
theorem d_T_init_24 : decode prog_7_method_1_code 24 = .ok (.putfield 22, 3) := by decide +kernel
theorem d_T_init_27 : decode prog_7_method_1_code 27 = .ok (.return_, 1) := by decide +kernel
theorem d_G_init_0 : decode prog_3_method_1_code 0 = .ok (.aload_n 0, 1) := by decide +kernel
theorem d_G_init_1 : decode prog_3_method_1_code 1 = .ok (.invokespecial 3, 3) := by decide +kernel
theorem d_G_init_4 : decode prog_3_method_1_code 4 = .ok (.aload_n 0, 1) := by decide +kernel
theorem d_G_init_5 : decode prog_3_method_1_code 5 = .ok (.bipush 40, 2) := by decide +kernel
theorem d_G_init_7 : decode prog_3_method_1_code 7 = .ok (.newarray .int, 2) := by decide +kernel
theorem d_G_init_9 : decode prog_3_method_1_code 9 = .ok (.putfield 9, 3) := by decide +kernel
theorem d_G_init_12 : decode prog_3_method_1_code 12 = .ok (.aload_n 0, 1) := by decide +kernel
theorem d_G_init_13 : decode prog_3_method_1_code 13 = .ok (.bipush 40, 2) := by decide +kernel
theorem d_G_init_15 : decode prog_3_method_1_code 15 = .ok (.newarray .int, 2) := by decide +kernel
theorem d_G_init_17 : decode prog_3_method_1_code 17 = .ok (.putfield 15, 3) := by decide +kernel
theorem d_G_init_20 : decode prog_3_method_1_code 20 = .ok (.aload_n 0, 1) := by decide +kernel
theorem d_G_init_21 : decode prog_3_method_1_code 21 = .ok (.bipush 40, 2) := by decide +kernel
theorem d_G_init_23 : decode prog_3_method_1_code 23 = .ok (.newarray .int, 2) := by decide +kernel
theorem d_G_init_25 : decode prog_3_method_1_code 25 = .ok (.putfield 18, 3) := by decide +kernel
theorem d_G_init_28 : decode prog_3_method_1_code 28 = .ok (.aload_n 0, 1) := by decide +kernel
theorem d_G_init_29 : decode prog_3_method_1_code 29 = .ok (.bipush 40, 2) := by decide +kernel
theorem d_G_init_31 : decode prog_3_method_1_code 31 = .ok (.newarray .int, 2) := by decide +kernel
theorem d_G_init_33 : decode prog_3_method_1_code 33 = .ok (.putfield 21, 3) := by decide +kernel
theorem d_G_init_36 : decode prog_3_method_1_code 36 = .ok (.aload_n 0, 1) := by decide +kernel
theorem d_G_init_37 : decode prog_3_method_1_code 37 = .ok (.iconst 0, 1) := by decide +kernel
theorem d_G_init_38 : decode prog_3_method_1_code 38 = .ok (.putfield 24, 3) := by decide +kernel
theorem d_G_init_41 : decode prog_3_method_1_code 41 = .ok (.aload_n 0, 1) := by decide +kernel
theorem d_G_init_42 : decode prog_3_method_1_code 42 = .ok (.iconst 0, 1) := by decide +kernel
theorem d_G_init_43 : decode prog_3_method_1_code 43 = .ok (.putfield 28, 3) := by decide +kernel
theorem d_G_init_46 : decode prog_3_method_1_code 46 = .ok (.aload_n 0, 1) := by decide +kernel
theorem d_G_init_47 : decode prog_3_method_1_code 47 = .ok (.bipush 40, 2) := by decide +kernel
theorem d_G_init_49 : decode prog_3_method_1_code 49 = .ok (.newarray .int, 2) := by decide +kernel
theorem d_G_init_51 : decode prog_3_method_1_code 51 = .ok (.putfield 31, 3) := by decide +kernel
theorem d_G_init_54 : decode prog_3_method_1_code 54 = .ok (.aload_n 0, 1) := by decide +kernel
theorem d_G_init_55 : decode prog_3_method_1_code 55 = .ok (.bipush 40, 2) := by decide +kernel
theorem d_G_init_57 : decode prog_3_method_1_code 57 = .ok (.newarray .int, 2) := by decide +kernel
theorem d_G_init_59 : decode prog_3_method_1_code 59 = .ok (.putfield 34, 3) := by decide +kernel
theorem d_G_init_62 : decode prog_3_method_1_code 62 = .ok (.return_, 1) := by decide +kernel
theorem d_K_init_0 : decode prog_8_method_1_code 0 = .ok (.aload_n 0, 1) := by decide +kernel
theorem d_K_init_1 : decode prog_8_method_1_code 1 = .ok (.invokespecial 3, 3) := by decide +kernel
theorem d_K_init_4 : decode prog_8_method_1_code 4 = .ok (.aload_n 0, 1) := by decide +kernel
theorem d_K_init_5 : decode prog_8_method_1_code 5 = .ok (.iconst 3, 1) := by decide +kernel
theorem d_K_init_6 : decode prog_8_method_1_code 6 = .ok (.newarray .int, 2) := by decide +kernel
theorem d_K_init_8 : decode prog_8_method_1_code 8 = .ok (.putfield 9, 3) := by decide +kernel
theorem d_K_init_11 : decode prog_8_method_1_code 11 = .ok (.aload_n 0, 1) := by decide +kernel
theorem d_K_init_12 : decode prog_8_method_1_code 12 = .ok (.bipush 60, 2) := by decide +kernel
theorem d_K_init_14 : decode prog_8_method_1_code 14 = .ok (.newarray .int, 2) := by decide +kernel
theorem d_K_init_16 : decode prog_8_method_1_code 16 = .ok (.putfield 15, 3) := by decide +kernel
theorem d_K_init_19 : decode prog_8_method_1_code 19 = .ok (.aload_n 0, 1) := by decide +kernel
theorem d_K_init_20 : decode prog_8_method_1_code 20 = .ok (.aload_n 1, 1) := by decide +kernel
theorem d_K_init_21 : decode prog_8_method_1_code 21 = .ok (.putfield 18, 3) := by decide +kernel
theorem d_K_init_24 : decode prog_8_method_1_code 24 = .ok (.return_, 1) := by decide +kernel
theorem d_R_init_0 : decode prog_4_method_1_code 0 = .ok (.aload_n 0, 1) := by decide +kernel
theorem d_R_init_1 : decode prog_4_method_1_code 1 = .ok (.invokespecial 3, 3) := by decide +kernel
theorem d_R_init_4 : decode prog_4_method_1_code 4 = .ok (.aload_n 0, 1) := by decide +kernel
theorem d_R_init_5 : decode prog_4_method_1_code 5 = .ok (.iconst 0, 1) := by decide +kernel
theorem d_R_init_6 : decode prog_4_method_1_code 6 = .ok (.putfield 9, 3) := by decide +kernel
theorem d_R_init_9 : decode prog_4_method_1_code 9 = .ok (.aload_n 0, 1) := by decide +kernel
theorem d_R_init_10 : decode prog_4_method_1_code 10 = .ok (.bipush 7, 2) := by decide +kernel
theorem d_R_init_12 : decode prog_4_method_1_code 12 = .ok (.newarray .int, 2) := by decide +kernel
theorem d_R_init_14 : decode prog_4_method_1_code 14 = .ok (.putfield 15, 3) := by decide +kernel
theorem d_R_init_17 : decode prog_4_method_1_code 17 = .ok (.aload_n 0, 1) := by decide +kernel
theorem d_R_init_18 : decode prog_4_method_1_code 18 = .ok (.bipush 40, 2) := by decide +kernel
theorem d_R_init_20 : decode prog_4_method_1_code 20 = .ok (.newarray .int, 2) := by decide +kernel
theorem d_R_init_22 : decode prog_4_method_1_code 22 = .ok (.putfield 19, 3) := by decide +kernel
theorem d_R_init_25 : decode prog_4_method_1_code 25 = .ok (.aload_n 0, 1) := by decide +kernel
theorem d_R_init_26 : decode prog_4_method_1_code 26 = .ok (.bipush 41, 2) := by decide +kernel
theorem d_R_init_28 : decode prog_4_method_1_code 28 = .ok (.newarray .int, 2) := by decide +kernel
theorem d_R_init_30 : decode prog_4_method_1_code 30 = .ok (.putfield 22, 3) := by decide +kernel
theorem d_R_init_33 : decode prog_4_method_1_code 33 = .ok (.aload_n 0, 1) := by decide +kernel
theorem d_R_init_34 : decode prog_4_method_1_code 34 = .ok (.aload_n 1, 1) := by decide +kernel
theorem d_R_init_35 : decode prog_4_method_1_code 35 = .ok (.putfield 25, 3) := by decide +kernel
theorem d_R_init_38 : decode prog_4_method_1_code 38 = .ok (.aload_n 0, 1) := by decide +kernel
theorem d_R_init_39 : decode prog_4_method_1_code 39 = .ok (.aload_n 2, 1) := by decide +kernel
theorem d_R_init_40 : decode prog_4_method_1_code 40 = .ok (.putfield 29, 3) := by decide +kernel
theorem d_R_init_43 : decode prog_4_method_1_code 43 = .ok (.return_, 1) := by decide +kernel
theorem d_C_init_0 : decode prog_2_method_1_code 0 = .ok (.aload_n 0, 1) := by decide +kernel
theorem d_C_init_1 : decode prog_2_method_1_code 1 = .ok (.invokespecial 3, 3) := by decide +kernel
theorem d_C_init_4 : decode prog_2_method_1_code 4 = .ok (.aload_n 0, 1) := by decide +kernel
theorem d_C_init_5 : decode prog_2_method_1_code 5 = .ok (.bipush 127, 2) := by decide +kernel
theorem d_C_init_7 : decode prog_2_method_1_code 7 = .ok (.newarray .int, 2) := by decide +kernel
theorem d_C_init_9 : decode prog_2_method_1_code 9 = .ok (.putfield 9, 3) := by decide +kernel
theorem d_C_init_12 : decode prog_2_method_1_code 12 = .ok (.aload_n 0, 1) := by decide +kernel
theorem d_C_init_13 : decode prog_2_method_1_code 13 = .ok (.bipush 40, 2) := by decide +kernel
theorem d_C_init_15 : decode prog_2_method_1_code 15 = .ok (.newarray .long, 2) := by decide +kernel
theorem d_C_init_17 : decode prog_2_method_1_code 17 = .ok (.putfield 15, 3) := by decide +kernel
theorem d_C_init_20 : decode prog_2_method_1_code 20 = .ok (.aload_n 0, 1) := by decide +kernel
theorem d_C_init_21 : decode prog_2_method_1_code 21 = .ok (.bipush 40, 2) := by decide +kernel
theorem d_C_init_23 : decode prog_2_method_1_code 23 = .ok (.newarray .long, 2) := by decide +kernel
theorem d_C_init_25 : decode prog_2_method_1_code 25 = .ok (.putfield 19, 3) := by decide +kernel
theorem d_C_init_28 : decode prog_2_method_1_code 28 = .ok (.aload_n 0, 1) := by decide +kernel
theorem d_C_init_29 : decode prog_2_method_1_code 29 = .ok (.bipush 40, 2) := by decide +kernel
theorem d_C_init_31 : decode prog_2_method_1_code 31 = .ok (.bipush 60, 2) := by decide +kernel
theorem d_C_init_33 : decode prog_2_method_1_code 33 = .ok (.multianewarray 22 2, 4) := by decide +kernel
theorem d_C_init_37 : decode prog_2_method_1_code 37 = .ok (.putfield 24, 3) := by decide +kernel
theorem d_C_init_40 : decode prog_2_method_1_code 40 = .ok (.aload_n 0, 1) := by decide +kernel
theorem d_C_init_41 : decode prog_2_method_1_code 41 = .ok (.bipush 60, 2) := by decide +kernel
theorem d_C_init_43 : decode prog_2_method_1_code 43 = .ok (.newarray .int, 2) := by decide +kernel
theorem d_C_init_45 : decode prog_2_method_1_code 45 = .ok (.putfield 27, 3) := by decide +kernel
theorem d_C_init_48 : decode prog_2_method_1_code 48 = .ok (.aload_n 0, 1) := by decide +kernel
theorem d_C_init_49 : decode prog_2_method_1_code 49 = .ok (.aload_n 1, 1) := by decide +kernel
theorem d_C_init_50 : decode prog_2_method_1_code 50 = .ok (.putfield 30, 3) := by decide +kernel
theorem d_C_init_53 : decode prog_2_method_1_code 53 = .ok (.aload_n 0, 1) := by decide +kernel
theorem d_C_init_54 : decode prog_2_method_1_code 54 = .ok (.getfield 9, 3) := by decide +kernel
theorem d_C_init_57 : decode prog_2_method_1_code 57 = .ok (.iconst 1, 1) := by decide +kernel
theorem d_C_init_58 : decode prog_2_method_1_code 58 = .ok (.invokestatic 34, 3) := by decide +kernel
theorem d_C_init_61 : decode prog_2_method_1_code 61 = .ok (.return_, 1) := by decide +kernel
theorem d_A_fill_II_0 : decode prog_20_method_103_code 0 = .ok (.iconst 0, 1) := by decide +kernel
theorem d_A_fill_II_1 : decode prog_20_method_103_code 1 = .ok (.istore_n 2, 1) := by decide +kernel
theorem d_A_fill_II_2 : decode prog_20_method_103_code 2 = .ok (.aload_n 0, 1) := by decide +kernel
theorem d_A_fill_II_3 : decode prog_20_method_103_code 3 = .ok (.arraylength, 1) := by decide +kernel
theorem d_A_fill_II_4 : decode prog_20_method_103_code 4 = .ok (.istore_n 3, 1) := by decide +kernel
theorem d_A_fill_II_5 : decode prog_20_method_103_code 5 = .ok (.iload_n 2, 1) := by decide +kernel
theorem d_A_fill_II_6 : decode prog_20_method_103_code 6 = .ok (.iload_n 3, 1) := by decide +kernel
theorem d_A_fill_II_7 : decode prog_20_method_103_code 7 = .ok (.if_icmp .ge 13, 3) := by decide +kernel
theorem d_A_fill_II_10 : decode prog_20_method_103_code 10 = .ok (.aload_n 0, 1) := by decide +kernel
theorem d_A_fill_II_11 : decode prog_20_method_103_code 11 = .ok (.iload_n 2, 1) := by decide +kernel
theorem d_A_fill_II_12 : decode prog_20_method_103_code 12 = .ok (.iload_n 1, 1) := by decide +kernel
theorem d_A_fill_II_13 : decode prog_20_method_103_code 13 = .ok (.iastore, 1) := by decide +kernel
theorem d_A_fill_II_14 : decode prog_20_method_103_code 14 = .ok (.iinc 2 1, 3) := by decide +kernel
theorem d_A_fill_II_17 : decode prog_20_method_103_code 17 = .ok (.goto (-12), 3) := by decide +kernel
theorem d_A_fill_II_20 : decode prog_20_method_103_code 20 = .ok (.return_, 1) := by decide +kernel
theorem d_T_append_0 : decode prog_7_method_2_code 0 = .ok (.iload_n 3, 1) := by decide +kernel
theorem d_T_append_1 : decode prog_7_method_2_code 1 = .ok (.iconst 1, 1) := by decide +kernel
theorem d_T_append_2 : decode prog_7_method_2_code 2 = .ok (.if_icmp .lt 20, 3) := by decide +kernel
theorem d_T_append_5 : decode prog_7_method_2_code 5 = .ok (.iload_n 3, 1) := by decide +kernel
theorem d_T_append_6 : decode prog_7_method_2_code 6 = .ok (.bipush 8, 2) := by decide +kernel
theorem d_T_append_8 : decode prog_7_method_2_code 8 = .ok (.if_icmp .gt 14, 3) := by decide +kernel
theorem d_T_append_11 : decode prog_7_method_2_code 11 = .ok (.aload_n 0, 1) := by decide +kernel
theorem d_T_append_12 : decode prog_7_method_2_code 12 = .ok (.getfield 15, 3) := by decide +kernel
theorem d_T_append_15 : decode prog_7_method_2_code 15 = .ok (.iload_n 3, 1) := by decide +kernel
theorem d_T_append_16 : decode prog_7_method_2_code 16 = .ok (.iadd, 1) := by decide +kernel
theorem d_T_append_17 : decode prog_7_method_2_code 17 = .ok (.bipush 60, 2) := by decide +kernel
theorem d_T_append_19 : decode prog_7_method_2_code 19 = .ok (.if_icmp .le 5, 3) := by decide +kernel
theorem d_T_append_22 : decode prog_7_method_2_code 22 = .ok (.iconst (-1), 1) := by decide +kernel
theorem d_T_append_23 : decode prog_7_method_2_code 23 = .ok (.ireturn, 1) := by decide +kernel
theorem d_T_append_24 : decode prog_7_method_2_code 24 = .ok (.iconst 0, 1) := by decide +kernel
theorem d_T_append_25 : decode prog_7_method_2_code 25 = .ok (.istore 4, 2) := by decide +kernel
theorem d_T_append_27 : decode prog_7_method_2_code 27 = .ok (.iload 4, 2) := by decide +kernel
theorem d_T_append_29 : decode prog_7_method_2_code 29 = .ok (.iload_n 3, 1) := by decide +kernel
theorem d_T_append_30 : decode prog_7_method_2_code 30 = .ok (.if_icmp .ge 33, 3) := by decide +kernel
theorem d_T_append_33 : decode prog_7_method_2_code 33 = .ok (.lload_n 1, 1) := by decide +kernel
theorem d_T_append_34 : decode prog_7_method_2_code 34 = .ok (.iload 4, 2) := by decide +kernel
theorem d_T_append_36 : decode prog_7_method_2_code 36 = .ok (.invokestatic 25, 3) := by decide +kernel
theorem d_T_append_39 : decode prog_7_method_2_code 39 = .ok (.istore 5, 2) := by decide +kernel
theorem d_T_append_41 : decode prog_7_method_2_code 41 = .ok (.iload 5, 2) := by decide +kernel
theorem d_T_append_43 : decode prog_7_method_2_code 43 = .ok (.bipush 33, 2) := by decide +kernel
theorem d_T_append_45 : decode prog_7_method_2_code 45 = .ok (.if_icmp .lt 10, 3) := by decide +kernel
theorem d_T_append_48 : decode prog_7_method_2_code 48 = .ok (.iload 5, 2) := by decide +kernel
theorem d_T_append_50 : decode prog_7_method_2_code 50 = .ok (.bipush 126, 2) := by decide +kernel
theorem d_T_append_52 : decode prog_7_method_2_code 52 = .ok (.if_icmp .le 5, 3) := by decide +kernel
theorem d_T_append_55 : decode prog_7_method_2_code 55 = .ok (.iconst (-1), 1) := by decide +kernel
theorem d_T_append_56 : decode prog_7_method_2_code 56 = .ok (.ireturn, 1) := by decide +kernel
theorem d_T_append_57 : decode prog_7_method_2_code 57 = .ok (.iinc 4 1, 3) := by decide +kernel
theorem d_T_append_60 : decode prog_7_method_2_code 60 = .ok (.goto (-33), 3) := by decide +kernel
theorem d_T_append_63 : decode prog_7_method_2_code 63 = .ok (.iload_n 3, 1) := by decide +kernel
theorem d_T_append_64 : decode prog_7_method_2_code 64 = .ok (.iconst 1, 1) := by decide +kernel
theorem d_T_append_65 : decode prog_7_method_2_code 65 = .ok (.isub, 1) := by decide +kernel
theorem d_T_append_66 : decode prog_7_method_2_code 66 = .ok (.istore 4, 2) := by decide +kernel
theorem d_T_append_68 : decode prog_7_method_2_code 68 = .ok (.iload 4, 2) := by decide +kernel
theorem d_T_append_70 : decode prog_7_method_2_code 70 = .ok (.ifCond .lt 34, 3) := by decide +kernel
theorem d_T_append_73 : decode prog_7_method_2_code 73 = .ok (.aload_n 0, 1) := by decide +kernel
theorem d_T_append_74 : decode prog_7_method_2_code 74 = .ok (.getfield 9, 3) := by decide +kernel
theorem d_T_append_77 : decode prog_7_method_2_code 77 = .ok (.aload_n 0, 1) := by decide +kernel
theorem d_T_append_78 : decode prog_7_method_2_code 78 = .ok (.getfield 15, 3) := by decide +kernel
theorem d_T_append_81 : decode prog_7_method_2_code 81 = .ok (.lload_n 1, 1) := by decide +kernel
theorem d_T_append_82 : decode prog_7_method_2_code 82 = .ok (.iload 4, 2) := by decide +kernel
theorem d_T_append_84 : decode prog_7_method_2_code 84 = .ok (.invokestatic 25, 3) := by decide +kernel
theorem d_T_append_87 : decode prog_7_method_2_code 87 = .ok (.iastore, 1) := by decide +kernel
theorem d_T_append_88 : decode prog_7_method_2_code 88 = .ok (.aload_n 0, 1) := by decide +kernel
theorem d_T_append_89 : decode prog_7_method_2_code 89 = .ok (.dup, 1) := by decide +kernel
theorem d_T_append_90 : decode prog_7_method_2_code 90 = .ok (.getfield 15, 3) := by decide +kernel
theorem d_T_append_93 : decode prog_7_method_2_code 93 = .ok (.iconst 1, 1) := by decide +kernel
theorem d_T_append_94 : decode prog_7_method_2_code 94 = .ok (.iadd, 1) := by decide +kernel
theorem d_T_append_95 : decode prog_7_method_2_code 95 = .ok (.putfield 15, 3) := by decide +kernel
theorem d_T_append_98 : decode prog_7_method_2_code 98 = .ok (.iinc 4 (-1), 3) := by decide +kernel
theorem d_T_append_101 : decode prog_7_method_2_code 101 = .ok (.goto (-33), 3) := by decide +kernel
theorem d_T_append_104 : decode prog_7_method_2_code 104 = .ok (.aload_n 0, 1) := by decide +kernel
theorem d_T_append_105 : decode prog_7_method_2_code 105 = .ok (.getfield 15, 3) := by decide +kernel
theorem d_T_append_108 : decode prog_7_method_2_code 108 = .ok (.ireturn, 1) := by decide +kernel
theorem d_T_byteAt_0 : decode prog_7_method_3_code 0 = .ok (.lload_n 0, 1) := by decide +kernel
theorem d_T_byteAt_1 : decode prog_7_method_3_code 1 = .ok (.bipush 8, 2) := by decide +kernel
theorem d_T_byteAt_3 : decode prog_7_method_3_code 3 = .ok (.iload_n 2, 1) := by decide +kernel
theorem d_T_byteAt_4 : decode prog_7_method_3_code 4 = .ok (.imul, 1) := by decide +kernel
theorem d_T_byteAt_5 : decode prog_7_method_3_code 5 = .ok (.lushr, 1) := by decide +kernel
theorem d_T_byteAt_6 : decode prog_7_method_3_code 6 = .ok (.ldc2_w 29, 3) := by decide +kernel
theorem d_T_byteAt_9 : decode prog_7_method_3_code 9 = .ok (.land, 1) := by decide +kernel
theorem d_T_byteAt_10 : decode prog_7_method_3_code 10 = .ok (.l2i, 1) := by decide +kernel
theorem d_T_byteAt_11 : decode prog_7_method_3_code 11 = .ok (.ireturn, 1) := by decide +kernel
theorem d_T_clear_0 : decode prog_7_method_4_code 0 = .ok (.aload_n 0, 1) := by decide +kernel
theorem d_T_clear_1 : decode prog_7_method_4_code 1 = .ok (.iconst 0, 1) := by decide +kernel
theorem d_T_clear_2 : decode prog_7_method_4_code 2 = .ok (.putfield 15, 3) := by decide +kernel
theorem d_T_clear_5 : decode prog_7_method_4_code 5 = .ok (.return_, 1) := by decide +kernel
theorem d_T_isRule_0 : decode prog_7_method_8_code 0 = .ok (.aload_n 0, 1) := by decide +kernel
theorem d_T_isRule_1 : decode prog_7_method_8_code 1 = .ok (.aload_n 0, 1) := by decide +kernel
theorem d_T_isRule_2 : decode prog_7_method_8_code 2 = .ok (.iconst 1, 1) := by decide +kernel
theorem d_T_isRule_3 : decode prog_7_method_8_code 3 = .ok (.iconst 1, 1) := by decide +kernel
theorem d_T_isRule_4 : decode prog_7_method_8_code 4 = .ok (.invokevirtual 37, 3) := by decide +kernel
theorem d_T_isRule_7 : decode prog_7_method_8_code 7 = .ok (.invokevirtual 41, 3) := by decide +kernel
theorem d_T_isRule_10 : decode prog_7_method_8_code 10 = .ok (.ireturn, 1) := by decide +kernel
theorem d_T_firstWrong_0 : decode prog_7_method_10_code 0 = .ok (.iconst 1, 1) := by decide +kernel
theorem d_T_firstWrong_1 : decode prog_7_method_10_code 1 = .ok (.istore_n 3, 1) := by decide +kernel
theorem d_T_firstWrong_2 : decode prog_7_method_10_code 2 = .ok (.aload_n 0, 1) := by decide +kernel
theorem d_T_firstWrong_3 : decode prog_7_method_10_code 3 = .ok (.iconst (-1), 1) := by decide +kernel
theorem d_T_firstWrong_4 : decode prog_7_method_10_code 4 = .ok (.putfield 19, 3) := by decide +kernel
theorem d_T_firstWrong_7 : decode prog_7_method_10_code 7 = .ok (.iconst 0, 1) := by decide +kernel
theorem d_T_firstWrong_8 : decode prog_7_method_10_code 8 = .ok (.istore 4, 2) := by decide +kernel
theorem d_T_firstWrong_10 : decode prog_7_method_10_code 10 = .ok (.iload 4, 2) := by decide +kernel
theorem d_T_firstWrong_12 : decode prog_7_method_10_code 12 = .ok (.aload_n 0, 1) := by decide +kernel
theorem d_T_firstWrong_13 : decode prog_7_method_10_code 13 = .ok (.getfield 15, 3) := by decide +kernel
theorem d_T_firstWrong_16 : decode prog_7_method_10_code 16 = .ok (.if_icmp .ge 92, 3) := by decide +kernel
theorem d_T_firstWrong_19 : decode prog_7_method_10_code 19 = .ok (.iload_n 3, 1) := by decide +kernel
theorem d_T_firstWrong_20 : decode prog_7_method_10_code 20 = .ok (.ifCond .ne 41, 3) := by decide +kernel
theorem d_T_firstWrong_23 : decode prog_7_method_10_code 23 = .ok (.iload_n 1, 1) := by decide +kernel
theorem d_T_firstWrong_24 : decode prog_7_method_10_code 24 = .ok (.ifCond .eq 23, 3) := by decide +kernel
theorem d_T_firstWrong_27 : decode prog_7_method_10_code 27 = .ok (.aload_n 0, 1) := by decide +kernel
theorem d_T_firstWrong_28 : decode prog_7_method_10_code 28 = .ok (.getfield 19, 3) := by decide +kernel
theorem d_T_firstWrong_31 : decode prog_7_method_10_code 31 = .ok (.iconst (-1), 1) := by decide +kernel
theorem d_T_firstWrong_32 : decode prog_7_method_10_code 32 = .ok (.if_icmp .ne 15, 3) := by decide +kernel
theorem d_T_firstWrong_35 : decode prog_7_method_10_code 35 = .ok (.aload_n 0, 1) := by decide +kernel
theorem d_T_firstWrong_36 : decode prog_7_method_10_code 36 = .ok (.getfield 9, 3) := by decide +kernel
theorem d_T_firstWrong_39 : decode prog_7_method_10_code 39 = .ok (.iload 4, 2) := by decide +kernel
theorem d_T_firstWrong_41 : decode prog_7_method_10_code 41 = .ok (.iaload, 1) := by decide +kernel
theorem d_T_firstWrong_42 : decode prog_7_method_10_code 42 = .ok (.bipush 61, 2) := by decide +kernel
theorem d_T_firstWrong_44 : decode prog_7_method_10_code 44 = .ok (.if_icmp .eq 6, 3) := by decide +kernel
theorem d_T_firstWrong_47 : decode prog_7_method_10_code 47 = .ok (.iload 4, 2) := by decide +kernel
theorem d_T_firstWrong_49 : decode prog_7_method_10_code 49 = .ok (.ireturn, 1) := by decide +kernel
theorem d_T_firstWrong_50 : decode prog_7_method_10_code 50 = .ok (.aload_n 0, 1) := by decide +kernel
theorem d_T_firstWrong_51 : decode prog_7_method_10_code 51 = .ok (.iload 4, 2) := by decide +kernel
theorem d_T_firstWrong_53 : decode prog_7_method_10_code 53 = .ok (.putfield 19, 3) := by decide +kernel
theorem d_T_firstWrong_56 : decode prog_7_method_10_code 56 = .ok (.iconst 1, 1) := by decide +kernel
theorem d_T_firstWrong_57 : decode prog_7_method_10_code 57 = .ok (.istore_n 3, 1) := by decide +kernel
theorem d_T_firstWrong_58 : decode prog_7_method_10_code 58 = .ok (.goto 44, 3) := by decide +kernel
theorem d_T_firstWrong_61 : decode prog_7_method_10_code 61 = .ok (.iload_n 2, 1) := by decide +kernel
theorem d_T_firstWrong_62 : decode prog_7_method_10_code 62 = .ok (.ifCond .eq 12, 3) := by decide +kernel
theorem d_T_firstWrong_65 : decode prog_7_method_10_code 65 = .ok (.aload_n 0, 1) := by decide +kernel
theorem d_T_firstWrong_66 : decode prog_7_method_10_code 66 = .ok (.iload 4, 2) := by decide +kernel
theorem d_T_firstWrong_68 : decode prog_7_method_10_code 68 = .ok (.invokevirtual 45, 3) := by decide +kernel
theorem d_T_firstWrong_71 : decode prog_7_method_10_code 71 = .ok (.goto 13, 3) := by decide +kernel
theorem d_T_firstWrong_74 : decode prog_7_method_10_code 74 = .ok (.aload_n 0, 1) := by decide +kernel
theorem d_T_firstWrong_75 : decode prog_7_method_10_code 75 = .ok (.getfield 9, 3) := by decide +kernel
theorem d_T_firstWrong_78 : decode prog_7_method_10_code 78 = .ok (.iload 4, 2) := by decide +kernel
theorem d_T_firstWrong_80 : decode prog_7_method_10_code 80 = .ok (.iaload, 1) := by decide +kernel
theorem d_T_firstWrong_81 : decode prog_7_method_10_code 81 = .ok (.invokestatic 49, 3) := by decide +kernel
theorem d_T_firstWrong_84 : decode prog_7_method_10_code 84 = .ok (.istore 5, 2) := by decide +kernel
theorem d_T_firstWrong_86 : decode prog_7_method_10_code 86 = .ok (.iload 5, 2) := by decide +kernel
theorem d_T_firstWrong_88 : decode prog_7_method_10_code 88 = .ok (.iconst (-1), 1) := by decide +kernel
theorem d_T_firstWrong_89 : decode prog_7_method_10_code 89 = .ok (.if_icmp .ne 6, 3) := by decide +kernel
theorem d_T_firstWrong_92 : decode prog_7_method_10_code 92 = .ok (.iload 4, 2) := by decide +kernel
theorem d_T_firstWrong_94 : decode prog_7_method_10_code 94 = .ok (.ireturn, 1) := by decide +kernel
theorem d_T_firstWrong_95 : decode prog_7_method_10_code 95 = .ok (.iload_n 3, 1) := by decide +kernel
theorem d_T_firstWrong_96 : decode prog_7_method_10_code 96 = .ok (.iload 5, 2) := by decide +kernel
theorem d_T_firstWrong_98 : decode prog_7_method_10_code 98 = .ok (.iconst 1, 1) := by decide +kernel
theorem d_T_firstWrong_99 : decode prog_7_method_10_code 99 = .ok (.isub, 1) := by decide +kernel
theorem d_T_firstWrong_100 : decode prog_7_method_10_code 100 = .ok (.iadd, 1) := by decide +kernel
theorem d_T_firstWrong_101 : decode prog_7_method_10_code 101 = .ok (.istore_n 3, 1) := by decide +kernel
theorem d_T_firstWrong_102 : decode prog_7_method_10_code 102 = .ok (.iinc 4 1, 3) := by decide +kernel
theorem d_T_firstWrong_105 : decode prog_7_method_10_code 105 = .ok (.goto (-95), 3) := by decide +kernel
theorem d_T_firstWrong_108 : decode prog_7_method_10_code 108 = .ok (.iload_n 3, 1) := by decide +kernel
theorem d_T_firstWrong_109 : decode prog_7_method_10_code 109 = .ok (.ifCond .ne 19, 3) := by decide +kernel
theorem d_T_firstWrong_112 : decode prog_7_method_10_code 112 = .ok (.iload_n 1, 1) := by decide +kernel
theorem d_T_firstWrong_113 : decode prog_7_method_10_code 113 = .ok (.ifCond .eq 11, 3) := by decide +kernel
theorem d_T_firstWrong_116 : decode prog_7_method_10_code 116 = .ok (.aload_n 0, 1) := by decide +kernel
theorem d_T_firstWrong_117 : decode prog_7_method_10_code 117 = .ok (.getfield 19, 3) := by decide +kernel
theorem d_T_firstWrong_120 : decode prog_7_method_10_code 120 = .ok (.iconst (-1), 1) := by decide +kernel
theorem d_T_firstWrong_121 : decode prog_7_method_10_code 121 = .ok (.if_icmp .eq 7, 3) := by decide +kernel
theorem d_T_firstWrong_124 : decode prog_7_method_10_code 124 = .ok (.iconst 1, 1) := by decide +kernel
theorem d_T_firstWrong_125 : decode prog_7_method_10_code 125 = .ok (.goto 4, 3) := by decide +kernel
theorem d_T_firstWrong_128 : decode prog_7_method_10_code 128 = .ok (.iconst 0, 1) := by decide +kernel
theorem d_T_firstWrong_129 : decode prog_7_method_10_code 129 = .ok (.istore 4, 2) := by decide +kernel
theorem d_T_firstWrong_131 : decode prog_7_method_10_code 131 = .ok (.iload 4, 2) := by decide +kernel
theorem d_T_firstWrong_133 : decode prog_7_method_10_code 133 = .ok (.ifCond .eq 7, 3) := by decide +kernel
theorem d_T_firstWrong_136 : decode prog_7_method_10_code 136 = .ok (.iconst (-1), 1) := by decide +kernel
theorem d_T_firstWrong_137 : decode prog_7_method_10_code 137 = .ok (.goto 7, 3) := by decide +kernel
theorem d_T_firstWrong_140 : decode prog_7_method_10_code 140 = .ok (.aload_n 0, 1) := by decide +kernel
theorem d_T_firstWrong_141 : decode prog_7_method_10_code 141 = .ok (.getfield 15, 3) := by decide +kernel
theorem d_T_firstWrong_144 : decode prog_7_method_10_code 144 = .ok (.ireturn, 1) := by decide +kernel
theorem d_T_partsInRule_0 : decode prog_7_method_11_code 0 = .ok (.aload_n 0, 1) := by decide +kernel
theorem d_T_partsInRule_1 : decode prog_7_method_11_code 1 = .ok (.getfield 19, 3) := by decide +kernel
theorem d_T_partsInRule_4 : decode prog_7_method_11_code 4 = .ok (.iconst (-1), 1) := by decide +kernel
theorem d_T_partsInRule_5 : decode prog_7_method_11_code 5 = .ok (.if_icmp .ne 7, 3) := by decide +kernel
theorem d_T_partsInRule_8 : decode prog_7_method_11_code 8 = .ok (.iconst 0, 1) := by decide +kernel
theorem d_T_partsInRule_9 : decode prog_7_method_11_code 9 = .ok (.goto 9, 3) := by decide +kernel
theorem d_T_partsInRule_12 : decode prog_7_method_11_code 12 = .ok (.aload_n 0, 1) := by decide +kernel
theorem d_T_partsInRule_13 : decode prog_7_method_11_code 13 = .ok (.getfield 19, 3) := by decide +kernel
theorem d_T_partsInRule_16 : decode prog_7_method_11_code 16 = .ok (.iconst 1, 1) := by decide +kernel
theorem d_T_partsInRule_17 : decode prog_7_method_11_code 17 = .ok (.iadd, 1) := by decide +kernel
theorem d_T_partsInRule_18 : decode prog_7_method_11_code 18 = .ok (.istore_n 2, 1) := by decide +kernel
theorem d_T_partsInRule_19 : decode prog_7_method_11_code 19 = .ok (.iload_n 1, 1) := by decide +kernel
theorem d_T_partsInRule_20 : decode prog_7_method_11_code 20 = .ok (.iload_n 2, 1) := by decide +kernel
theorem d_T_partsInRule_21 : decode prog_7_method_11_code 21 = .ok (.isub, 1) := by decide +kernel
theorem d_T_partsInRule_22 : decode prog_7_method_11_code 22 = .ok (.bipush 7, 2) := by decide +kernel
theorem d_T_partsInRule_24 : decode prog_7_method_11_code 24 = .ok (.if_icmp .lt 5, 3) := by decide +kernel
theorem d_T_partsInRule_27 : decode prog_7_method_11_code 27 = .ok (.iconst (-1), 1) := by decide +kernel
theorem d_T_partsInRule_28 : decode prog_7_method_11_code 28 = .ok (.ireturn, 1) := by decide +kernel
theorem d_T_partsInRule_29 : decode prog_7_method_11_code 29 = .ok (.aload_n 0, 1) := by decide +kernel
theorem d_T_partsInRule_30 : decode prog_7_method_11_code 30 = .ok (.getfield 19, 3) := by decide +kernel
theorem d_T_partsInRule_33 : decode prog_7_method_11_code 33 = .ok (.iconst (-1), 1) := by decide +kernel
theorem d_T_partsInRule_34 : decode prog_7_method_11_code 34 = .ok (.if_icmp .eq 30, 3) := by decide +kernel
theorem d_T_partsInRule_37 : decode prog_7_method_11_code 37 = .ok (.aload_n 0, 1) := by decide +kernel
theorem d_T_partsInRule_38 : decode prog_7_method_11_code 38 = .ok (.getfield 9, 3) := by decide +kernel
theorem d_T_partsInRule_41 : decode prog_7_method_11_code 41 = .ok (.iload_n 1, 1) := by decide +kernel
theorem d_T_partsInRule_42 : decode prog_7_method_11_code 42 = .ok (.iaload, 1) := by decide +kernel
theorem d_T_partsInRule_43 : decode prog_7_method_11_code 43 = .ok (.invokestatic 54, 3) := by decide +kernel
theorem d_T_partsInRule_46 : decode prog_7_method_11_code 46 = .ok (.ifCond .eq 18, 3) := by decide +kernel
theorem d_T_partsInRule_49 : decode prog_7_method_11_code 49 = .ok (.aload_n 0, 1) := by decide +kernel
theorem d_T_partsInRule_50 : decode prog_7_method_11_code 50 = .ok (.aload_n 0, 1) := by decide +kernel
theorem d_T_partsInRule_51 : decode prog_7_method_11_code 51 = .ok (.getfield 9, 3) := by decide +kernel
theorem d_T_partsInRule_54 : decode prog_7_method_11_code 54 = .ok (.iload_n 1, 1) := by decide +kernel
theorem d_T_partsInRule_55 : decode prog_7_method_11_code 55 = .ok (.iaload, 1) := by decide +kernel
theorem d_T_partsInRule_56 : decode prog_7_method_11_code 56 = .ok (.invokevirtual 57, 3) := by decide +kernel
theorem d_T_partsInRule_59 : decode prog_7_method_11_code 59 = .ok (.ifCond .ne 5, 3) := by decide +kernel
theorem d_T_partsInRule_62 : decode prog_7_method_11_code 62 = .ok (.iconst (-1), 1) := by decide +kernel
theorem d_T_partsInRule_63 : decode prog_7_method_11_code 63 = .ok (.ireturn, 1) := by decide +kernel
theorem d_T_partsInRule_64 : decode prog_7_method_11_code 64 = .ok (.aload_n 0, 1) := by decide +kernel
theorem d_T_partsInRule_65 : decode prog_7_method_11_code 65 = .ok (.getfield 9, 3) := by decide +kernel
theorem d_T_partsInRule_68 : decode prog_7_method_11_code 68 = .ok (.iload_n 1, 1) := by decide +kernel
theorem d_T_partsInRule_69 : decode prog_7_method_11_code 69 = .ok (.iaload, 1) := by decide +kernel
theorem d_T_partsInRule_70 : decode prog_7_method_11_code 70 = .ok (.invokestatic 60, 3) := by decide +kernel
theorem d_T_partsInRule_73 : decode prog_7_method_11_code 73 = .ok (.ireturn, 1) := by decide +kernel
theorem d_S_isVariable_0 : decode prog_6_method_3_code 0 = .ok (.iload_n 0, 1) := by decide +kernel
theorem d_S_isVariable_1 : decode prog_6_method_3_code 1 = .ok (.bipush 97, 2) := by decide +kernel
theorem d_S_isVariable_3 : decode prog_6_method_3_code 3 = .ok (.if_icmp .lt 13, 3) := by decide +kernel
theorem d_S_isVariable_6 : decode prog_6_method_3_code 6 = .ok (.iload_n 0, 1) := by decide +kernel
theorem d_S_isVariable_7 : decode prog_6_method_3_code 7 = .ok (.bipush 100, 2) := by decide +kernel
theorem d_S_isVariable_9 : decode prog_6_method_3_code 9 = .ok (.if_icmp .ge 7, 3) := by decide +kernel
theorem d_S_isVariable_12 : decode prog_6_method_3_code 12 = .ok (.iconst 1, 1) := by decide +kernel
theorem d_S_isVariable_13 : decode prog_6_method_3_code 13 = .ok (.goto 4, 3) := by decide +kernel
theorem d_S_isVariable_16 : decode prog_6_method_3_code 16 = .ok (.iconst 0, 1) := by decide +kernel
theorem d_S_isVariable_17 : decode prog_6_method_3_code 17 = .ok (.ireturn, 1) := by decide +kernel
theorem d_T_inFirstSide_0 : decode prog_7_method_12_code 0 = .ok (.iconst 0, 1) := by decide +kernel
theorem d_T_inFirstSide_1 : decode prog_7_method_12_code 1 = .ok (.istore_n 2, 1) := by decide +kernel
theorem d_T_inFirstSide_2 : decode prog_7_method_12_code 2 = .ok (.iload_n 2, 1) := by decide +kernel
theorem d_T_inFirstSide_3 : decode prog_7_method_12_code 3 = .ok (.aload_n 0, 1) := by decide +kernel
theorem d_T_inFirstSide_4 : decode prog_7_method_12_code 4 = .ok (.getfield 19, 3) := by decide +kernel
theorem d_T_inFirstSide_7 : decode prog_7_method_12_code 7 = .ok (.if_icmp .ge 21, 3) := by decide +kernel
theorem d_T_inFirstSide_10 : decode prog_7_method_12_code 10 = .ok (.aload_n 0, 1) := by decide +kernel
theorem d_T_inFirstSide_11 : decode prog_7_method_12_code 11 = .ok (.getfield 9, 3) := by decide +kernel
theorem d_T_inFirstSide_14 : decode prog_7_method_12_code 14 = .ok (.iload_n 2, 1) := by decide +kernel
theorem d_T_inFirstSide_15 : decode prog_7_method_12_code 15 = .ok (.iaload, 1) := by decide +kernel
theorem d_T_inFirstSide_16 : decode prog_7_method_12_code 16 = .ok (.iload_n 1, 1) := by decide +kernel
theorem d_T_inFirstSide_17 : decode prog_7_method_12_code 17 = .ok (.if_icmp .ne 5, 3) := by decide +kernel
theorem d_T_inFirstSide_20 : decode prog_7_method_12_code 20 = .ok (.iconst 1, 1) := by decide +kernel
theorem d_T_inFirstSide_21 : decode prog_7_method_12_code 21 = .ok (.ireturn, 1) := by decide +kernel
theorem d_T_inFirstSide_22 : decode prog_7_method_12_code 22 = .ok (.iinc 2 1, 3) := by decide +kernel
theorem d_T_inFirstSide_25 : decode prog_7_method_12_code 25 = .ok (.goto (-23), 3) := by decide +kernel
theorem d_T_inFirstSide_28 : decode prog_7_method_12_code 28 = .ok (.iconst 0, 1) := by decide +kernel
theorem d_T_inFirstSide_29 : decode prog_7_method_12_code 29 = .ok (.ireturn, 1) := by decide +kernel
theorem d_S_partsInPattern_0 : decode prog_6_method_4_code 0 = .ok (.iload_n 0, 1) := by decide +kernel
theorem d_S_partsInPattern_1 : decode prog_6_method_4_code 1 = .ok (.invokestatic 9, 3) := by decide +kernel
theorem d_S_partsInPattern_4 : decode prog_6_method_4_code 4 = .ok (.ifCond .eq 7, 3) := by decide +kernel
theorem d_S_partsInPattern_7 : decode prog_6_method_4_code 7 = .ok (.iconst 0, 1) := by decide +kernel
theorem d_S_partsInPattern_8 : decode prog_6_method_4_code 8 = .ok (.goto 7, 3) := by decide +kernel
theorem d_S_partsInPattern_11 : decode prog_6_method_4_code 11 = .ok (.iload_n 0, 1) := by decide +kernel
theorem d_S_partsInPattern_12 : decode prog_6_method_4_code 12 = .ok (.invokestatic 15, 3) := by decide +kernel
theorem d_S_partsInPattern_15 : decode prog_6_method_4_code 15 = .ok (.ireturn, 1) := by decide +kernel
theorem d_S_parts_0 : decode prog_6_method_2_code 0 = .ok (.iload_n 0, 1) := by decide +kernel
theorem d_S_parts_1 : decode prog_6_method_2_code 1 = .ok (.lookupswitch 81 #[(33, 77), (42, 75), (43, 75), (45, 77), (94, 75), (120, 79), (121, 79), (122, 79)], 75) := by decide +kernel
theorem d_S_parts_76 : decode prog_6_method_2_code 76 = .ok (.iconst 2, 1) := by decide +kernel
theorem d_S_parts_77 : decode prog_6_method_2_code 77 = .ok (.ireturn, 1) := by decide +kernel
theorem d_S_parts_78 : decode prog_6_method_2_code 78 = .ok (.iconst 1, 1) := by decide +kernel
theorem d_S_parts_79 : decode prog_6_method_2_code 79 = .ok (.ireturn, 1) := by decide +kernel
theorem d_S_parts_80 : decode prog_6_method_2_code 80 = .ok (.iconst 0, 1) := by decide +kernel
theorem d_S_parts_81 : decode prog_6_method_2_code 81 = .ok (.ireturn, 1) := by decide +kernel
theorem d_S_parts_82 : decode prog_6_method_2_code 82 = .ok (.iload_n 0, 1) := by decide +kernel
theorem d_S_parts_83 : decode prog_6_method_2_code 83 = .ok (.bipush 48, 2) := by decide +kernel
theorem d_S_parts_85 : decode prog_6_method_2_code 85 = .ok (.if_icmp .lt 13, 3) := by decide +kernel
theorem d_S_parts_88 : decode prog_6_method_2_code 88 = .ok (.iload_n 0, 1) := by decide +kernel
theorem d_S_parts_89 : decode prog_6_method_2_code 89 = .ok (.bipush 57, 2) := by decide +kernel
theorem d_S_parts_91 : decode prog_6_method_2_code 91 = .ok (.if_icmp .gt 7, 3) := by decide +kernel
theorem d_S_parts_94 : decode prog_6_method_2_code 94 = .ok (.iconst 0, 1) := by decide +kernel
theorem d_S_parts_95 : decode prog_6_method_2_code 95 = .ok (.goto 4, 3) := by decide +kernel
theorem d_S_parts_98 : decode prog_6_method_2_code 98 = .ok (.iconst (-1), 1) := by decide +kernel
theorem d_S_parts_99 : decode prog_6_method_2_code 99 = .ok (.ireturn, 1) := by decide +kernel
theorem d_T_noteWrong_0 : decode prog_7_method_9_code 0 = .ok (.iload_n 1, 1) := by decide +kernel
theorem d_T_noteWrong_1 : decode prog_7_method_9_code 1 = .ok (.iconst (-1), 1) := by decide +kernel
theorem d_T_noteWrong_2 : decode prog_7_method_9_code 2 = .ok (.if_icmp .ne 5, 3) := by decide +kernel
theorem d_T_noteWrong_5 : decode prog_7_method_9_code 5 = .ok (.iconst 1, 1) := by decide +kernel
theorem d_T_noteWrong_6 : decode prog_7_method_9_code 6 = .ok (.ireturn, 1) := by decide +kernel
theorem d_T_noteWrong_7 : decode prog_7_method_9_code 7 = .ok (.aload_n 0, 1) := by decide +kernel
theorem d_T_noteWrong_8 : decode prog_7_method_9_code 8 = .ok (.iload_n 1, 1) := by decide +kernel
theorem d_T_noteWrong_9 : decode prog_7_method_9_code 9 = .ok (.putfield 22, 3) := by decide +kernel
theorem d_T_noteWrong_12 : decode prog_7_method_9_code 12 = .ok (.iconst 0, 1) := by decide +kernel
theorem d_T_noteWrong_13 : decode prog_7_method_9_code 13 = .ok (.ireturn, 1) := by decide +kernel
theorem d_T_isTerm_0 : decode prog_7_method_6_code 0 = .ok (.aload_n 0, 1) := by decide +kernel
theorem d_T_isTerm_1 : decode prog_7_method_6_code 1 = .ok (.aload_n 0, 1) := by decide +kernel
theorem d_T_isTerm_2 : decode prog_7_method_6_code 2 = .ok (.iconst 0, 1) := by decide +kernel
theorem d_T_isTerm_3 : decode prog_7_method_6_code 3 = .ok (.iconst 0, 1) := by decide +kernel
theorem d_T_isTerm_4 : decode prog_7_method_6_code 4 = .ok (.invokevirtual 37, 3) := by decide +kernel
theorem d_T_isTerm_7 : decode prog_7_method_6_code 7 = .ok (.invokevirtual 41, 3) := by decide +kernel
theorem d_T_isTerm_10 : decode prog_7_method_6_code 10 = .ok (.ireturn, 1) := by decide +kernel
theorem d_T_isEquation_0 : decode prog_7_method_7_code 0 = .ok (.aload_n 0, 1) := by decide +kernel
theorem d_T_isEquation_1 : decode prog_7_method_7_code 1 = .ok (.aload_n 0, 1) := by decide +kernel
theorem d_T_isEquation_2 : decode prog_7_method_7_code 2 = .ok (.iconst 1, 1) := by decide +kernel
theorem d_T_isEquation_3 : decode prog_7_method_7_code 3 = .ok (.iconst 0, 1) := by decide +kernel
theorem d_T_isEquation_4 : decode prog_7_method_7_code 4 = .ok (.invokevirtual 37, 3) := by decide +kernel
theorem d_T_isEquation_7 : decode prog_7_method_7_code 7 = .ok (.invokevirtual 41, 3) := by decide +kernel
theorem d_T_isEquation_10 : decode prog_7_method_7_code 10 = .ok (.ireturn, 1) := by decide +kernel
theorem d_R_fitAll_0 : decode prog_4_method_2_code 0 = .ok (.aload_n 0, 1) := by decide +kernel
theorem d_R_fitAll_1 : decode prog_4_method_2_code 1 = .ok (.getfield 25, 3) := by decide +kernel
theorem d_R_fitAll_4 : decode prog_4_method_2_code 4 = .ok (.getfield 33, 3) := by decide +kernel
theorem d_R_fitAll_7 : decode prog_4_method_2_code 7 = .ok (.istore_n 3, 1) := by decide +kernel
theorem d_R_fitAll_8 : decode prog_4_method_2_code 8 = .ok (.aload_n 0, 1) := by decide +kernel
theorem d_R_fitAll_9 : decode prog_4_method_2_code 9 = .ok (.getfield 25, 3) := by decide +kernel
theorem d_R_fitAll_12 : decode prog_4_method_2_code 12 = .ok (.getfield 39, 3) := by decide +kernel
theorem d_R_fitAll_15 : decode prog_4_method_2_code 15 = .ok (.istore 4, 2) := by decide +kernel
theorem d_R_fitAll_17 : decode prog_4_method_2_code 17 = .ok (.aload_n 0, 1) := by decide +kernel
theorem d_R_fitAll_18 : decode prog_4_method_2_code 18 = .ok (.invokevirtual 42, 3) := by decide +kernel
theorem d_R_fitAll_21 : decode prog_4_method_2_code 21 = .ok (.aload_n 0, 1) := by decide +kernel
theorem d_R_fitAll_22 : decode prog_4_method_2_code 22 = .ok (.iconst 0, 1) := by decide +kernel
theorem d_R_fitAll_23 : decode prog_4_method_2_code 23 = .ok (.putfield 9, 3) := by decide +kernel
theorem d_R_fitAll_26 : decode prog_4_method_2_code 26 = .ok (.iconst 0, 1) := by decide +kernel
theorem d_R_fitAll_27 : decode prog_4_method_2_code 27 = .ok (.istore 5, 2) := by decide +kernel
theorem d_R_fitAll_29 : decode prog_4_method_2_code 29 = .ok (.iload 5, 2) := by decide +kernel
theorem d_R_fitAll_31 : decode prog_4_method_2_code 31 = .ok (.iload_n 2, 1) := by decide +kernel
theorem d_R_fitAll_32 : decode prog_4_method_2_code 32 = .ok (.if_icmp .ge 57, 3) := by decide +kernel
theorem d_R_fitAll_35 : decode prog_4_method_2_code 35 = .ok (.iconst 0, 1) := by decide +kernel
theorem d_R_fitAll_36 : decode prog_4_method_2_code 36 = .ok (.istore 6, 2) := by decide +kernel
theorem d_R_fitAll_38 : decode prog_4_method_2_code 38 = .ok (.iload 6, 2) := by decide +kernel
theorem d_R_fitAll_40 : decode prog_4_method_2_code 40 = .ok (.iload 4, 2) := by decide +kernel
theorem d_R_fitAll_42 : decode prog_4_method_2_code 42 = .ok (.if_icmp .ge 41, 3) := by decide +kernel
theorem d_R_fitAll_45 : decode prog_4_method_2_code 45 = .ok (.aload_n 0, 1) := by decide +kernel
theorem d_R_fitAll_46 : decode prog_4_method_2_code 46 = .ok (.getfield 15, 3) := by decide +kernel
theorem d_R_fitAll_49 : decode prog_4_method_2_code 49 = .ok (.iconst 0, 1) := by decide +kernel
theorem d_R_fitAll_50 : decode prog_4_method_2_code 50 = .ok (.iload 6, 2) := by decide +kernel
theorem d_R_fitAll_52 : decode prog_4_method_2_code 52 = .ok (.iastore, 1) := by decide +kernel
theorem d_R_fitAll_53 : decode prog_4_method_2_code 53 = .ok (.aload_n 0, 1) := by decide +kernel
theorem d_R_fitAll_54 : decode prog_4_method_2_code 54 = .ok (.aload_n 1, 1) := by decide +kernel
theorem d_R_fitAll_55 : decode prog_4_method_2_code 55 = .ok (.iload 5, 2) := by decide +kernel
theorem d_R_fitAll_57 : decode prog_4_method_2_code 57 = .ok (.aaload, 1) := by decide +kernel
theorem d_R_fitAll_58 : decode prog_4_method_2_code 58 = .ok (.iconst 0, 1) := by decide +kernel
theorem d_R_fitAll_59 : decode prog_4_method_2_code 59 = .ok (.invokevirtual 45, 3) := by decide +kernel
theorem d_R_fitAll_62 : decode prog_4_method_2_code 62 = .ok (.ifCond .ne 15, 3) := by decide +kernel
theorem d_R_fitAll_65 : decode prog_4_method_2_code 65 = .ok (.aload_n 0, 1) := by decide +kernel
theorem d_R_fitAll_66 : decode prog_4_method_2_code 66 = .ok (.getfield 25, 3) := by decide +kernel
theorem d_R_fitAll_69 : decode prog_4_method_2_code 69 = .ok (.iload_n 3, 1) := by decide +kernel
theorem d_R_fitAll_70 : decode prog_4_method_2_code 70 = .ok (.iload 4, 2) := by decide +kernel
theorem d_R_fitAll_72 : decode prog_4_method_2_code 72 = .ok (.invokevirtual 49, 3) := by decide +kernel
theorem d_R_fitAll_75 : decode prog_4_method_2_code 75 = .ok (.iconst 0, 1) := by decide +kernel
theorem d_R_fitAll_76 : decode prog_4_method_2_code 76 = .ok (.ireturn, 1) := by decide +kernel
theorem d_R_fitAll_77 : decode prog_4_method_2_code 77 = .ok (.iinc 6 1, 3) := by decide +kernel
theorem d_R_fitAll_80 : decode prog_4_method_2_code 80 = .ok (.goto (-42), 3) := by decide +kernel
theorem d_R_fitAll_83 : decode prog_4_method_2_code 83 = .ok (.iinc 5 1, 3) := by decide +kernel
theorem d_R_fitAll_86 : decode prog_4_method_2_code 86 = .ok (.goto (-57), 3) := by decide +kernel
theorem d_R_fitAll_89 : decode prog_4_method_2_code 89 = .ok (.aload_n 0, 1) := by decide +kernel
theorem d_R_fitAll_90 : decode prog_4_method_2_code 90 = .ok (.getfield 9, 3) := by decide +kernel
theorem d_R_fitAll_93 : decode prog_4_method_2_code 93 = .ok (.ifCond .eq 10, 3) := by decide +kernel
theorem d_R_fitAll_96 : decode prog_4_method_2_code 96 = .ok (.aload_n 0, 1) := by decide +kernel
theorem d_R_fitAll_97 : decode prog_4_method_2_code 97 = .ok (.getfield 25, 3) := by decide +kernel
theorem d_R_fitAll_100 : decode prog_4_method_2_code 100 = .ok (.invokevirtual 53, 3) := by decide +kernel
theorem d_R_fitAll_103 : decode prog_4_method_2_code 103 = .ok (.iconst 1, 1) := by decide +kernel
theorem d_R_fitAll_104 : decode prog_4_method_2_code 104 = .ok (.ireturn, 1) := by decide +kernel
theorem d_R_listNodes_0 : decode prog_4_method_3_code 0 = .ok (.iconst 0, 1) := by decide +kernel
theorem d_R_listNodes_1 : decode prog_4_method_3_code 1 = .ok (.istore_n 1, 1) := by decide +kernel
theorem d_R_listNodes_2 : decode prog_4_method_3_code 2 = .ok (.iconst 0, 1) := by decide +kernel
theorem d_R_listNodes_3 : decode prog_4_method_3_code 3 = .ok (.istore_n 2, 1) := by decide +kernel
theorem d_R_listNodes_4 : decode prog_4_method_3_code 4 = .ok (.iload_n 2, 1) := by decide +kernel
theorem d_R_listNodes_5 : decode prog_4_method_3_code 5 = .ok (.aload_n 0, 1) := by decide +kernel
theorem d_R_listNodes_6 : decode prog_4_method_3_code 6 = .ok (.getfield 25, 3) := by decide +kernel
theorem d_R_listNodes_9 : decode prog_4_method_3_code 9 = .ok (.getfield 39, 3) := by decide +kernel
theorem d_R_listNodes_12 : decode prog_4_method_3_code 12 = .ok (.if_icmp .ge 58, 3) := by decide +kernel
theorem d_R_listNodes_15 : decode prog_4_method_3_code 15 = .ok (.aload_n 0, 1) := by decide +kernel
theorem d_R_listNodes_16 : decode prog_4_method_3_code 16 = .ok (.getfield 22, 3) := by decide +kernel
theorem d_R_listNodes_19 : decode prog_4_method_3_code 19 = .ok (.iload_n 2, 1) := by decide +kernel
theorem d_R_listNodes_20 : decode prog_4_method_3_code 20 = .ok (.iload_n 1, 1) := by decide +kernel
theorem d_R_listNodes_21 : decode prog_4_method_3_code 21 = .ok (.iastore, 1) := by decide +kernel
theorem d_R_listNodes_22 : decode prog_4_method_3_code 22 = .ok (.iconst 0, 1) := by decide +kernel
theorem d_R_listNodes_23 : decode prog_4_method_3_code 23 = .ok (.istore_n 3, 1) := by decide +kernel
theorem d_R_listNodes_24 : decode prog_4_method_3_code 24 = .ok (.iload_n 3, 1) := by decide +kernel
theorem d_R_listNodes_25 : decode prog_4_method_3_code 25 = .ok (.aload_n 0, 1) := by decide +kernel
theorem d_R_listNodes_26 : decode prog_4_method_3_code 26 = .ok (.getfield 25, 3) := by decide +kernel
theorem d_R_listNodes_29 : decode prog_4_method_3_code 29 = .ok (.getfield 33, 3) := by decide +kernel
theorem d_R_listNodes_32 : decode prog_4_method_3_code 32 = .ok (.if_icmp .ge 32, 3) := by decide +kernel
theorem d_R_listNodes_35 : decode prog_4_method_3_code 35 = .ok (.aload_n 0, 1) := by decide +kernel
theorem d_R_listNodes_36 : decode prog_4_method_3_code 36 = .ok (.getfield 25, 3) := by decide +kernel
theorem d_R_listNodes_39 : decode prog_4_method_3_code 39 = .ok (.getfield 56, 3) := by decide +kernel
theorem d_R_listNodes_42 : decode prog_4_method_3_code 42 = .ok (.iload_n 3, 1) := by decide +kernel
theorem d_R_listNodes_43 : decode prog_4_method_3_code 43 = .ok (.iaload, 1) := by decide +kernel
theorem d_R_listNodes_44 : decode prog_4_method_3_code 44 = .ok (.iload_n 2, 1) := by decide +kernel
theorem d_R_listNodes_45 : decode prog_4_method_3_code 45 = .ok (.if_icmp .ne 13, 3) := by decide +kernel
theorem d_R_listNodes_48 : decode prog_4_method_3_code 48 = .ok (.aload_n 0, 1) := by decide +kernel
theorem d_R_listNodes_49 : decode prog_4_method_3_code 49 = .ok (.getfield 19, 3) := by decide +kernel
theorem d_R_listNodes_52 : decode prog_4_method_3_code 52 = .ok (.iload_n 1, 1) := by decide +kernel
theorem d_R_listNodes_53 : decode prog_4_method_3_code 53 = .ok (.iload_n 3, 1) := by decide +kernel
theorem d_R_listNodes_54 : decode prog_4_method_3_code 54 = .ok (.iastore, 1) := by decide +kernel
theorem d_R_listNodes_55 : decode prog_4_method_3_code 55 = .ok (.iinc 1 1, 3) := by decide +kernel
theorem d_R_listNodes_58 : decode prog_4_method_3_code 58 = .ok (.iinc 3 1, 3) := by decide +kernel
theorem d_R_listNodes_61 : decode prog_4_method_3_code 61 = .ok (.goto (-37), 3) := by decide +kernel
theorem d_R_listNodes_64 : decode prog_4_method_3_code 64 = .ok (.iinc 2 1, 3) := by decide +kernel
theorem d_R_listNodes_67 : decode prog_4_method_3_code 67 = .ok (.goto (-63), 3) := by decide +kernel
theorem d_R_listNodes_70 : decode prog_4_method_3_code 70 = .ok (.aload_n 0, 1) := by decide +kernel
theorem d_R_listNodes_71 : decode prog_4_method_3_code 71 = .ok (.getfield 22, 3) := by decide +kernel
theorem d_R_listNodes_74 : decode prog_4_method_3_code 74 = .ok (.aload_n 0, 1) := by decide +kernel
theorem d_R_listNodes_75 : decode prog_4_method_3_code 75 = .ok (.getfield 25, 3) := by decide +kernel
theorem d_R_listNodes_78 : decode prog_4_method_3_code 78 = .ok (.getfield 39, 3) := by decide +kernel
theorem d_R_listNodes_81 : decode prog_4_method_3_code 81 = .ok (.iload_n 1, 1) := by decide +kernel
theorem d_R_listNodes_82 : decode prog_4_method_3_code 82 = .ok (.iastore, 1) := by decide +kernel
theorem d_R_listNodes_83 : decode prog_4_method_3_code 83 = .ok (.return_, 1) := by decide +kernel
theorem d_T_become_0 : decode prog_7_method_5_code 0 = .ok (.aload_n 1, 1) := by decide +kernel
theorem d_T_become_1 : decode prog_7_method_5_code 1 = .ok (.iconst 0, 1) := by decide +kernel
theorem d_T_become_2 : decode prog_7_method_5_code 2 = .ok (.aload_n 0, 1) := by decide +kernel
theorem d_T_become_3 : decode prog_7_method_5_code 3 = .ok (.getfield 9, 3) := by decide +kernel
theorem d_T_become_6 : decode prog_7_method_5_code 6 = .ok (.iconst 0, 1) := by decide +kernel
theorem d_T_become_7 : decode prog_7_method_5_code 7 = .ok (.iload_n 2, 1) := by decide +kernel
theorem d_T_become_8 : decode prog_7_method_5_code 8 = .ok (.invokestatic 31, 3) := by decide +kernel
theorem d_T_become_11 : decode prog_7_method_5_code 11 = .ok (.aload_n 0, 1) := by decide +kernel
theorem d_T_become_12 : decode prog_7_method_5_code 12 = .ok (.iload_n 2, 1) := by decide +kernel
theorem d_T_become_13 : decode prog_7_method_5_code 13 = .ok (.putfield 15, 3) := by decide +kernel
theorem d_T_become_16 : decode prog_7_method_5_code 16 = .ok (.return_, 1) := by decide +kernel
theorem ml_E_1 : Cond.methodLink "EqualTerms" 1 Lib.objectInit ∈ et_W := et_in 74 (by decide +kernel) (by decide +kernel)
theorem ml_T_3 : Cond.methodLink "EqualTerms$Text" 3 Lib.objectInit ∈ et_W := et_in 82 (by decide +kernel) (by decide +kernel)
theorem ml_G_3 : Cond.methodLink "EqualTerms$Graph" 3 Lib.objectInit ∈ et_W := et_in 109 (by decide +kernel) (by decide +kernel)
theorem ml_K_3 : Cond.methodLink "EqualTerms$Walk" 3 Lib.objectInit ∈ et_W := et_in 154 (by decide +kernel) (by decide +kernel)
theorem ml_R_3 : Cond.methodLink "EqualTerms$Round" 3 Lib.objectInit ∈ et_W := et_in 171 (by decide +kernel) (by decide +kernel)
theorem ml_C_3 : Cond.methodLink "EqualTerms$Cheapest" 3 Lib.objectInit ∈ et_W := et_in 197 (by decide +kernel) (by decide +kernel)
theorem ml_U_3 : Cond.methodLink "EqualTerms$Rule" 3 Lib.objectInit ∈ et_W := et_in 414 (by decide +kernel) (by decide +kernel)
theorem ml_M_1 : Cond.methodLink "EqualTermsModel" 1 Lib.objectInit ∈ et_W := et_in 678 (by decide +kernel) (by decide +kernel)
end
section
theorem d_E_init_0 : decode prog_1_method_1_code 0 = .ok (.aload_n 0, 1) := by decide +kernel
theorem d_E_init_1 : decode prog_1_method_1_code 1 = .ok (.invokespecial 1, 3) := by decide +kernel
theorem d_E_init_4 : decode prog_1_method_1_code 4 = .ok (.aload_n 0, 1) := by decide +kernel
theorem d_E_init_5 : decode prog_1_method_1_code 5 = .ok (.new 7, 3) := by decide +kernel
theorem d_E_init_8 : decode prog_1_method_1_code 8 = .ok (.dup, 1) := by decide +kernel
theorem d_E_init_9 : decode prog_1_method_1_code 9 = .ok (.invokespecial 9, 3) := by decide +kernel
theorem d_E_init_12 : decode prog_1_method_1_code 12 = .ok (.putfield 10, 3) := by decide +kernel
theorem d_E_init_15 : decode prog_1_method_1_code 15 = .ok (.aload_n 0, 1) := by decide +kernel
theorem d_E_init_16 : decode prog_1_method_1_code 16 = .ok (.new 16, 3) := by decide +kernel
theorem d_E_init_19 : decode prog_1_method_1_code 19 = .ok (.dup, 1) := by decide +kernel
theorem d_E_init_20 : decode prog_1_method_1_code 20 = .ok (.invokespecial 18, 3) := by decide +kernel
theorem d_E_init_23 : decode prog_1_method_1_code 23 = .ok (.putfield 19, 3) := by decide +kernel
theorem d_E_init_26 : decode prog_1_method_1_code 26 = .ok (.aload_n 0, 1) := by decide +kernel
theorem d_E_init_27 : decode prog_1_method_1_code 27 = .ok (.new 23, 3) := by decide +kernel
theorem d_E_init_30 : decode prog_1_method_1_code 30 = .ok (.dup, 1) := by decide +kernel
theorem d_E_init_31 : decode prog_1_method_1_code 31 = .ok (.aload_n 0, 1) := by decide +kernel
theorem d_E_init_32 : decode prog_1_method_1_code 32 = .ok (.getfield 19, 3) := by decide +kernel
theorem d_E_init_35 : decode prog_1_method_1_code 35 = .ok (.invokespecial 25, 3) := by decide +kernel
theorem d_E_init_38 : decode prog_1_method_1_code 38 = .ok (.putfield 28, 3) := by decide +kernel
theorem d_E_init_41 : decode prog_1_method_1_code 41 = .ok (.aload_n 0, 1) := by decide +kernel
theorem d_E_init_42 : decode prog_1_method_1_code 42 = .ok (.new 32, 3) := by decide +kernel
theorem d_E_init_45 : decode prog_1_method_1_code 45 = .ok (.dup, 1) := by decide +kernel
theorem d_E_init_46 : decode prog_1_method_1_code 46 = .ok (.aload_n 0, 1) := by decide +kernel
theorem d_E_init_47 : decode prog_1_method_1_code 47 = .ok (.getfield 19, 3) := by decide +kernel
theorem d_E_init_50 : decode prog_1_method_1_code 50 = .ok (.aload_n 0, 1) := by decide +kernel
theorem d_E_init_51 : decode prog_1_method_1_code 51 = .ok (.getfield 28, 3) := by decide +kernel
theorem d_E_init_54 : decode prog_1_method_1_code 54 = .ok (.invokespecial 34, 3) := by decide +kernel
theorem d_E_init_57 : decode prog_1_method_1_code 57 = .ok (.putfield 37, 3) := by decide +kernel
theorem d_E_init_60 : decode prog_1_method_1_code 60 = .ok (.aload_n 0, 1) := by decide +kernel
theorem d_E_init_61 : decode prog_1_method_1_code 61 = .ok (.new 41, 3) := by decide +kernel
theorem d_E_init_64 : decode prog_1_method_1_code 64 = .ok (.dup, 1) := by decide +kernel
theorem d_E_init_65 : decode prog_1_method_1_code 65 = .ok (.aload_n 0, 1) := by decide +kernel
theorem d_E_init_66 : decode prog_1_method_1_code 66 = .ok (.getfield 19, 3) := by decide +kernel
theorem d_E_init_69 : decode prog_1_method_1_code 69 = .ok (.invokespecial 43, 3) := by decide +kernel
theorem d_E_init_72 : decode prog_1_method_1_code 72 = .ok (.putfield 44, 3) := by decide +kernel
theorem d_E_init_75 : decode prog_1_method_1_code 75 = .ok (.aload_n 0, 1) := by decide +kernel
theorem d_E_init_76 : decode prog_1_method_1_code 76 = .ok (.bipush 6, 2) := by decide +kernel
theorem d_E_init_78 : decode prog_1_method_1_code 78 = .ok (.anewarray 48, 3) := by decide +kernel
theorem d_E_init_81 : decode prog_1_method_1_code 81 = .ok (.putfield 50, 3) := by decide +kernel
theorem d_E_init_84 : decode prog_1_method_1_code 84 = .ok (.aload_n 0, 1) := by decide +kernel
theorem d_E_init_85 : decode prog_1_method_1_code 85 = .ok (.iconst 0, 1) := by decide +kernel
theorem d_E_init_86 : decode prog_1_method_1_code 86 = .ok (.putfield 54, 3) := by decide +kernel
theorem d_E_init_89 : decode prog_1_method_1_code 89 = .ok (.return_, 1) := by decide +kernel
theorem d_E_type_0 : decode prog_1_method_2_code 0 = .ok (.aload_n 0, 1) := by decide +kernel
theorem d_E_type_1 : decode prog_1_method_2_code 1 = .ok (.getfield 10, 3) := by decide +kernel
theorem d_E_type_4 : decode prog_1_method_2_code 4 = .ok (.lload_n 1, 1) := by decide +kernel
theorem d_E_type_5 : decode prog_1_method_2_code 5 = .ok (.iload_n 3, 1) := by decide +kernel
theorem d_E_type_6 : decode prog_1_method_2_code 6 = .ok (.invokevirtual 58, 3) := by decide +kernel
theorem d_E_type_9 : decode prog_1_method_2_code 9 = .ok (.ireturn, 1) := by decide +kernel
theorem d_E_wipe_0 : decode prog_1_method_3_code 0 = .ok (.aload_n 0, 1) := by decide +kernel
theorem d_E_wipe_1 : decode prog_1_method_3_code 1 = .ok (.getfield 10, 3) := by decide +kernel
theorem d_E_wipe_4 : decode prog_1_method_3_code 4 = .ok (.getfield 62, 3) := by decide +kernel
theorem d_E_wipe_7 : decode prog_1_method_3_code 7 = .ok (.istore_n 1, 1) := by decide +kernel
theorem d_E_wipe_8 : decode prog_1_method_3_code 8 = .ok (.aload_n 0, 1) := by decide +kernel
theorem d_E_wipe_9 : decode prog_1_method_3_code 9 = .ok (.getfield 10, 3) := by decide +kernel
theorem d_E_wipe_12 : decode prog_1_method_3_code 12 = .ok (.invokevirtual 65, 3) := by decide +kernel
theorem d_E_wipe_15 : decode prog_1_method_3_code 15 = .ok (.iload_n 1, 1) := by decide +kernel
theorem d_E_wipe_16 : decode prog_1_method_3_code 16 = .ok (.ireturn, 1) := by decide +kernel
theorem d_E_character_0 : decode prog_1_method_4_code 0 = .ok (.iload_n 1, 1) := by decide +kernel
theorem d_E_character_1 : decode prog_1_method_4_code 1 = .ok (.ifCond .lt 14, 3) := by decide +kernel
theorem d_E_character_4 : decode prog_1_method_4_code 4 = .ok (.iload_n 1, 1) := by decide +kernel
theorem d_E_character_5 : decode prog_1_method_4_code 5 = .ok (.aload_n 0, 1) := by decide +kernel
theorem d_E_character_6 : decode prog_1_method_4_code 6 = .ok (.getfield 10, 3) := by decide +kernel
theorem d_E_character_9 : decode prog_1_method_4_code 9 = .ok (.getfield 62, 3) := by decide +kernel
theorem d_E_character_12 : decode prog_1_method_4_code 12 = .ok (.if_icmp .lt 7, 3) := by decide +kernel
theorem d_E_character_15 : decode prog_1_method_4_code 15 = .ok (.iconst (-1), 1) := by decide +kernel
theorem d_E_character_16 : decode prog_1_method_4_code 16 = .ok (.goto 12, 3) := by decide +kernel
theorem d_E_character_19 : decode prog_1_method_4_code 19 = .ok (.aload_n 0, 1) := by decide +kernel
theorem d_E_character_20 : decode prog_1_method_4_code 20 = .ok (.getfield 10, 3) := by decide +kernel
theorem d_E_character_23 : decode prog_1_method_4_code 23 = .ok (.getfield 68, 3) := by decide +kernel
theorem d_E_character_26 : decode prog_1_method_4_code 26 = .ok (.iload_n 1, 1) := by decide +kernel
theorem d_E_character_27 : decode prog_1_method_4_code 27 = .ok (.iaload, 1) := by decide +kernel
theorem d_E_character_28 : decode prog_1_method_4_code 28 = .ok (.ireturn, 1) := by decide +kernel
theorem d_E_place_0 : decode prog_1_method_5_code 0 = .ok (.aload_n 0, 1) := by decide +kernel
theorem d_E_place_1 : decode prog_1_method_5_code 1 = .ok (.getfield 10, 3) := by decide +kernel
theorem d_E_place_4 : decode prog_1_method_5_code 4 = .ok (.getfield 72, 3) := by decide +kernel
theorem d_E_place_7 : decode prog_1_method_5_code 7 = .ok (.ireturn, 1) := by decide +kernel
theorem d_E_nodes_0 : decode prog_1_method_12_code 0 = .ok (.aload_n 0, 1) := by decide +kernel
theorem d_E_nodes_1 : decode prog_1_method_12_code 1 = .ok (.getfield 19, 3) := by decide +kernel
theorem d_E_nodes_4 : decode prog_1_method_12_code 4 = .ok (.getfield 97, 3) := by decide +kernel
theorem d_E_nodes_7 : decode prog_1_method_12_code 7 = .ok (.ireturn, 1) := by decide +kernel
theorem d_E_classes_0 : decode prog_1_method_13_code 0 = .ok (.aload_n 0, 1) := by decide +kernel
theorem d_E_classes_1 : decode prog_1_method_13_code 1 = .ok (.getfield 19, 3) := by decide +kernel
theorem d_E_classes_4 : decode prog_1_method_13_code 4 = .ok (.getfield 100, 3) := by decide +kernel
theorem d_E_classes_7 : decode prog_1_method_13_code 7 = .ok (.ireturn, 1) := by decide +kernel
theorem d_E_rule_0 : decode prog_1_method_6_code 0 = .ok (.aload_n 0, 1) := by decide +kernel
theorem d_E_rule_1 : decode prog_1_method_6_code 1 = .ok (.getfield 10, 3) := by decide +kernel
theorem d_E_rule_4 : decode prog_1_method_6_code 4 = .ok (.invokevirtual 75, 3) := by decide +kernel
theorem d_E_rule_7 : decode prog_1_method_6_code 7 = .ok (.ifCond .ne 13, 3) := by decide +kernel
theorem d_E_rule_10 : decode prog_1_method_6_code 10 = .ok (.new 79, 3) := by decide +kernel
theorem d_E_rule_13 : decode prog_1_method_6_code 13 = .ok (.dup, 1) := by decide +kernel
theorem d_E_rule_14 : decode prog_1_method_6_code 14 = .ok (.ldc 81, 2) := by decide +kernel
theorem d_E_rule_16 : decode prog_1_method_6_code 16 = .ok (.invokespecial 83, 3) := by decide +kernel
theorem d_E_rule_19 : decode prog_1_method_6_code 19 = .ok (.athrow, 1) := by decide +kernel
theorem d_E_rule_20 : decode prog_1_method_6_code 20 = .ok (.aload_n 0, 1) := by decide +kernel
theorem d_E_rule_21 : decode prog_1_method_6_code 21 = .ok (.getfield 54, 3) := by decide +kernel
theorem d_E_rule_24 : decode prog_1_method_6_code 24 = .ok (.bipush 6, 2) := by decide +kernel
theorem d_E_rule_26 : decode prog_1_method_6_code 26 = .ok (.if_icmp .lt 13, 3) := by decide +kernel
theorem d_E_rule_29 : decode prog_1_method_6_code 29 = .ok (.new 86, 3) := by decide +kernel
theorem d_E_rule_32 : decode prog_1_method_6_code 32 = .ok (.dup, 1) := by decide +kernel
theorem d_E_rule_33 : decode prog_1_method_6_code 33 = .ok (.ldc 88, 2) := by decide +kernel
theorem d_E_rule_35 : decode prog_1_method_6_code 35 = .ok (.invokespecial 90, 3) := by decide +kernel
theorem d_E_rule_38 : decode prog_1_method_6_code 38 = .ok (.athrow, 1) := by decide +kernel
theorem d_E_rule_39 : decode prog_1_method_6_code 39 = .ok (.aload_n 0, 1) := by decide +kernel
theorem d_E_rule_40 : decode prog_1_method_6_code 40 = .ok (.getfield 50, 3) := by decide +kernel
theorem d_E_rule_43 : decode prog_1_method_6_code 43 = .ok (.aload_n 0, 1) := by decide +kernel
theorem d_E_rule_44 : decode prog_1_method_6_code 44 = .ok (.getfield 54, 3) := by decide +kernel
theorem d_E_rule_47 : decode prog_1_method_6_code 47 = .ok (.new 48, 3) := by decide +kernel
theorem d_E_rule_50 : decode prog_1_method_6_code 50 = .ok (.dup, 1) := by decide +kernel
theorem d_E_rule_51 : decode prog_1_method_6_code 51 = .ok (.aload_n 0, 1) := by decide +kernel
theorem d_E_rule_52 : decode prog_1_method_6_code 52 = .ok (.getfield 10, 3) := by decide +kernel
theorem d_E_rule_55 : decode prog_1_method_6_code 55 = .ok (.invokespecial 91, 3) := by decide +kernel
theorem d_E_rule_58 : decode prog_1_method_6_code 58 = .ok (.aastore, 1) := by decide +kernel
theorem d_E_rule_59 : decode prog_1_method_6_code 59 = .ok (.aload_n 0, 1) := by decide +kernel
theorem d_E_rule_60 : decode prog_1_method_6_code 60 = .ok (.dup, 1) := by decide +kernel
theorem d_E_rule_61 : decode prog_1_method_6_code 61 = .ok (.getfield 54, 3) := by decide +kernel
theorem d_E_rule_64 : decode prog_1_method_6_code 64 = .ok (.iconst 1, 1) := by decide +kernel
theorem d_E_rule_65 : decode prog_1_method_6_code 65 = .ok (.iadd, 1) := by decide +kernel
theorem d_E_rule_66 : decode prog_1_method_6_code 66 = .ok (.putfield 54, 3) := by decide +kernel
theorem d_E_rule_69 : decode prog_1_method_6_code 69 = .ok (.aload_n 0, 1) := by decide +kernel
theorem d_E_rule_70 : decode prog_1_method_6_code 70 = .ok (.getfield 10, 3) := by decide +kernel
theorem d_E_rule_73 : decode prog_1_method_6_code 73 = .ok (.invokevirtual 65, 3) := by decide +kernel
theorem d_E_rule_76 : decode prog_1_method_6_code 76 = .ok (.aload_n 0, 1) := by decide +kernel
theorem d_E_rule_77 : decode prog_1_method_6_code 77 = .ok (.getfield 54, 3) := by decide +kernel
theorem d_E_rule_80 : decode prog_1_method_6_code 80 = .ok (.ireturn, 1) := by decide +kernel
theorem d_E_add_0 : decode prog_1_method_7_code 0 = .ok (.aload_n 0, 1) := by decide +kernel
theorem d_E_add_1 : decode prog_1_method_7_code 1 = .ok (.invokevirtual 94, 3) := by decide +kernel
theorem d_E_add_4 : decode prog_1_method_7_code 4 = .ok (.aload_n 0, 1) := by decide +kernel
theorem d_E_add_5 : decode prog_1_method_7_code 5 = .ok (.getfield 19, 3) := by decide +kernel
theorem d_E_add_8 : decode prog_1_method_7_code 8 = .ok (.getfield 97, 3) := by decide +kernel
theorem d_E_add_11 : decode prog_1_method_7_code 11 = .ok (.istore_n 1, 1) := by decide +kernel
theorem d_E_add_12 : decode prog_1_method_7_code 12 = .ok (.aload_n 0, 1) := by decide +kernel
theorem d_E_add_13 : decode prog_1_method_7_code 13 = .ok (.getfield 19, 3) := by decide +kernel
theorem d_E_add_16 : decode prog_1_method_7_code 16 = .ok (.getfield 100, 3) := by decide +kernel
theorem d_E_add_19 : decode prog_1_method_7_code 19 = .ok (.istore_n 2, 1) := by decide +kernel
theorem d_E_add_20 : decode prog_1_method_7_code 20 = .ok (.aload_n 0, 1) := by decide +kernel
theorem d_E_add_21 : decode prog_1_method_7_code 21 = .ok (.getfield 28, 3) := by decide +kernel
theorem d_E_add_24 : decode prog_1_method_7_code 24 = .ok (.aload_n 0, 1) := by decide +kernel
theorem d_E_add_25 : decode prog_1_method_7_code 25 = .ok (.getfield 10, 3) := by decide +kernel
theorem d_E_add_28 : decode prog_1_method_7_code 28 = .ok (.getfield 68, 3) := by decide +kernel
theorem d_E_add_31 : decode prog_1_method_7_code 31 = .ok (.iconst 0, 1) := by decide +kernel
theorem d_E_add_32 : decode prog_1_method_7_code 32 = .ok (.aload_n 0, 1) := by decide +kernel
theorem d_E_add_33 : decode prog_1_method_7_code 33 = .ok (.getfield 10, 3) := by decide +kernel
theorem d_E_add_36 : decode prog_1_method_7_code 36 = .ok (.getfield 62, 3) := by decide +kernel
theorem d_E_add_39 : decode prog_1_method_7_code 39 = .ok (.iconst 1, 1) := by decide +kernel
theorem d_E_add_40 : decode prog_1_method_7_code 40 = .ok (.invokevirtual 103, 3) := by decide +kernel
theorem d_E_add_43 : decode prog_1_method_7_code 43 = .ok (.iconst (-1), 1) := by decide +kernel
theorem d_E_add_44 : decode prog_1_method_7_code 44 = .ok (.if_icmp .ne 22, 3) := by decide +kernel
theorem d_E_add_47 : decode prog_1_method_7_code 47 = .ok (.aload_n 0, 1) := by decide +kernel
theorem d_E_add_48 : decode prog_1_method_7_code 48 = .ok (.getfield 19, 3) := by decide +kernel
theorem d_E_add_51 : decode prog_1_method_7_code 51 = .ok (.iload_n 1, 1) := by decide +kernel
theorem d_E_add_52 : decode prog_1_method_7_code 52 = .ok (.iload_n 2, 1) := by decide +kernel
theorem d_E_add_53 : decode prog_1_method_7_code 53 = .ok (.invokevirtual 107, 3) := by decide +kernel
theorem d_E_add_56 : decode prog_1_method_7_code 56 = .ok (.new 86, 3) := by decide +kernel
theorem d_E_add_59 : decode prog_1_method_7_code 59 = .ok (.dup, 1) := by decide +kernel
theorem d_E_add_60 : decode prog_1_method_7_code 60 = .ok (.ldc 111, 2) := by decide +kernel
theorem d_E_add_62 : decode prog_1_method_7_code 62 = .ok (.invokespecial 90, 3) := by decide +kernel
theorem d_E_add_65 : decode prog_1_method_7_code 65 = .ok (.athrow, 1) := by decide +kernel
theorem d_E_add_66 : decode prog_1_method_7_code 66 = .ok (.aload_n 0, 1) := by decide +kernel
theorem d_E_add_67 : decode prog_1_method_7_code 67 = .ok (.getfield 10, 3) := by decide +kernel
theorem d_E_add_70 : decode prog_1_method_7_code 70 = .ok (.invokevirtual 65, 3) := by decide +kernel
theorem d_E_add_73 : decode prog_1_method_7_code 73 = .ok (.aload_n 0, 1) := by decide +kernel
theorem d_E_add_74 : decode prog_1_method_7_code 74 = .ok (.getfield 19, 3) := by decide +kernel
theorem d_E_add_77 : decode prog_1_method_7_code 77 = .ok (.getfield 97, 3) := by decide +kernel
theorem d_E_add_80 : decode prog_1_method_7_code 80 = .ok (.ireturn, 1) := by decide +kernel
theorem d_E_demandTerm_0 : decode prog_1_method_17_code 0 = .ok (.aload_n 0, 1) := by decide +kernel
theorem d_E_demandTerm_1 : decode prog_1_method_17_code 1 = .ok (.getfield 10, 3) := by decide +kernel
theorem d_E_demandTerm_4 : decode prog_1_method_17_code 4 = .ok (.invokevirtual 189, 3) := by decide +kernel
theorem d_E_demandTerm_7 : decode prog_1_method_17_code 7 = .ok (.ifCond .ne 13, 3) := by decide +kernel
theorem d_E_demandTerm_10 : decode prog_1_method_17_code 10 = .ok (.new 79, 3) := by decide +kernel
theorem d_E_demandTerm_13 : decode prog_1_method_17_code 13 = .ok (.dup, 1) := by decide +kernel
theorem d_E_demandTerm_14 : decode prog_1_method_17_code 14 = .ok (.ldc 192, 2) := by decide +kernel
theorem d_E_demandTerm_16 : decode prog_1_method_17_code 16 = .ok (.invokespecial 83, 3) := by decide +kernel
theorem d_E_demandTerm_19 : decode prog_1_method_17_code 19 = .ok (.athrow, 1) := by decide +kernel
theorem d_E_demandTerm_20 : decode prog_1_method_17_code 20 = .ok (.return_, 1) := by decide +kernel
theorem d_E_unite_0 : decode prog_1_method_8_code 0 = .ok (.aload_n 0, 1) := by decide +kernel
theorem d_E_unite_1 : decode prog_1_method_8_code 1 = .ok (.invokevirtual 113, 3) := by decide +kernel
theorem d_E_unite_4 : decode prog_1_method_8_code 4 = .ok (.aload_n 0, 1) := by decide +kernel
theorem d_E_unite_5 : decode prog_1_method_8_code 5 = .ok (.getfield 19, 3) := by decide +kernel
theorem d_E_unite_8 : decode prog_1_method_8_code 8 = .ok (.getfield 97, 3) := by decide +kernel
theorem d_E_unite_11 : decode prog_1_method_8_code 11 = .ok (.istore_n 1, 1) := by decide +kernel
theorem d_E_unite_12 : decode prog_1_method_8_code 12 = .ok (.aload_n 0, 1) := by decide +kernel
theorem d_E_unite_13 : decode prog_1_method_8_code 13 = .ok (.getfield 19, 3) := by decide +kernel
theorem d_E_unite_16 : decode prog_1_method_8_code 16 = .ok (.getfield 100, 3) := by decide +kernel
theorem d_E_unite_19 : decode prog_1_method_8_code 19 = .ok (.istore_n 2, 1) := by decide +kernel
theorem d_E_unite_20 : decode prog_1_method_8_code 20 = .ok (.aload_n 0, 1) := by decide +kernel
theorem d_E_unite_21 : decode prog_1_method_8_code 21 = .ok (.getfield 28, 3) := by decide +kernel
theorem d_E_unite_24 : decode prog_1_method_8_code 24 = .ok (.aload_n 0, 1) := by decide +kernel
theorem d_E_unite_25 : decode prog_1_method_8_code 25 = .ok (.getfield 10, 3) := by decide +kernel
theorem d_E_unite_28 : decode prog_1_method_8_code 28 = .ok (.getfield 68, 3) := by decide +kernel
theorem d_E_unite_31 : decode prog_1_method_8_code 31 = .ok (.iconst 0, 1) := by decide +kernel
theorem d_E_unite_32 : decode prog_1_method_8_code 32 = .ok (.aload_n 0, 1) := by decide +kernel
theorem d_E_unite_33 : decode prog_1_method_8_code 33 = .ok (.getfield 10, 3) := by decide +kernel
theorem d_E_unite_36 : decode prog_1_method_8_code 36 = .ok (.getfield 116, 3) := by decide +kernel
theorem d_E_unite_39 : decode prog_1_method_8_code 39 = .ok (.iconst 1, 1) := by decide +kernel
theorem d_E_unite_40 : decode prog_1_method_8_code 40 = .ok (.invokevirtual 103, 3) := by decide +kernel
theorem d_E_unite_43 : decode prog_1_method_8_code 43 = .ok (.istore_n 3, 1) := by decide +kernel
theorem d_E_unite_44 : decode prog_1_method_8_code 44 = .ok (.aload_n 0, 1) := by decide +kernel
theorem d_E_unite_45 : decode prog_1_method_8_code 45 = .ok (.getfield 28, 3) := by decide +kernel
theorem d_E_unite_48 : decode prog_1_method_8_code 48 = .ok (.aload_n 0, 1) := by decide +kernel
theorem d_E_unite_49 : decode prog_1_method_8_code 49 = .ok (.getfield 10, 3) := by decide +kernel
theorem d_E_unite_52 : decode prog_1_method_8_code 52 = .ok (.getfield 68, 3) := by decide +kernel
theorem d_E_unite_55 : decode prog_1_method_8_code 55 = .ok (.aload_n 0, 1) := by decide +kernel
theorem d_E_unite_56 : decode prog_1_method_8_code 56 = .ok (.getfield 10, 3) := by decide +kernel
theorem d_E_unite_59 : decode prog_1_method_8_code 59 = .ok (.getfield 116, 3) := by decide +kernel
theorem d_E_unite_62 : decode prog_1_method_8_code 62 = .ok (.iconst 1, 1) := by decide +kernel
theorem d_E_unite_63 : decode prog_1_method_8_code 63 = .ok (.iadd, 1) := by decide +kernel
theorem d_E_unite_64 : decode prog_1_method_8_code 64 = .ok (.aload_n 0, 1) := by decide +kernel
theorem d_E_unite_65 : decode prog_1_method_8_code 65 = .ok (.getfield 10, 3) := by decide +kernel
theorem d_E_unite_68 : decode prog_1_method_8_code 68 = .ok (.getfield 62, 3) := by decide +kernel
theorem d_E_unite_71 : decode prog_1_method_8_code 71 = .ok (.iconst 1, 1) := by decide +kernel
theorem d_E_unite_72 : decode prog_1_method_8_code 72 = .ok (.invokevirtual 103, 3) := by decide +kernel
theorem d_E_unite_75 : decode prog_1_method_8_code 75 = .ok (.istore 4, 2) := by decide +kernel
theorem d_E_unite_77 : decode prog_1_method_8_code 77 = .ok (.iload_n 3, 1) := by decide +kernel
theorem d_E_unite_78 : decode prog_1_method_8_code 78 = .ok (.iconst (-1), 1) := by decide +kernel
theorem d_E_unite_79 : decode prog_1_method_8_code 79 = .ok (.if_icmp .eq 9, 3) := by decide +kernel
theorem d_E_unite_82 : decode prog_1_method_8_code 82 = .ok (.iload 4, 2) := by decide +kernel
theorem d_E_unite_84 : decode prog_1_method_8_code 84 = .ok (.iconst (-1), 1) := by decide +kernel
theorem d_E_unite_85 : decode prog_1_method_8_code 85 = .ok (.if_icmp .ne 22, 3) := by decide +kernel
theorem d_E_unite_88 : decode prog_1_method_8_code 88 = .ok (.aload_n 0, 1) := by decide +kernel
theorem d_E_unite_89 : decode prog_1_method_8_code 89 = .ok (.getfield 19, 3) := by decide +kernel
theorem d_E_unite_92 : decode prog_1_method_8_code 92 = .ok (.iload_n 1, 1) := by decide +kernel
theorem d_E_unite_93 : decode prog_1_method_8_code 93 = .ok (.iload_n 2, 1) := by decide +kernel
theorem d_E_unite_94 : decode prog_1_method_8_code 94 = .ok (.invokevirtual 107, 3) := by decide +kernel
theorem d_E_unite_97 : decode prog_1_method_8_code 97 = .ok (.new 86, 3) := by decide +kernel
theorem d_E_unite_100 : decode prog_1_method_8_code 100 = .ok (.dup, 1) := by decide +kernel
theorem d_E_unite_101 : decode prog_1_method_8_code 101 = .ok (.ldc 119, 2) := by decide +kernel
theorem d_E_unite_103 : decode prog_1_method_8_code 103 = .ok (.invokespecial 90, 3) := by decide +kernel
theorem d_E_unite_106 : decode prog_1_method_8_code 106 = .ok (.athrow, 1) := by decide +kernel
theorem d_E_unite_107 : decode prog_1_method_8_code 107 = .ok (.aload_n 0, 1) := by decide +kernel
theorem d_E_unite_108 : decode prog_1_method_8_code 108 = .ok (.getfield 19, 3) := by decide +kernel
theorem d_E_unite_111 : decode prog_1_method_8_code 111 = .ok (.iload_n 3, 1) := by decide +kernel
theorem d_E_unite_112 : decode prog_1_method_8_code 112 = .ok (.iload 4, 2) := by decide +kernel
theorem d_E_unite_114 : decode prog_1_method_8_code 114 = .ok (.invokevirtual 121, 3) := by decide +kernel
theorem d_E_unite_117 : decode prog_1_method_8_code 117 = .ok (.ifCond .eq 10, 3) := by decide +kernel
theorem d_E_unite_120 : decode prog_1_method_8_code 120 = .ok (.aload_n 0, 1) := by decide +kernel
theorem d_E_unite_121 : decode prog_1_method_8_code 121 = .ok (.getfield 19, 3) := by decide +kernel
theorem d_E_unite_124 : decode prog_1_method_8_code 124 = .ok (.invokevirtual 125, 3) := by decide +kernel
theorem d_E_unite_127 : decode prog_1_method_8_code 127 = .ok (.aload_n 0, 1) := by decide +kernel
theorem d_E_unite_128 : decode prog_1_method_8_code 128 = .ok (.getfield 10, 3) := by decide +kernel
theorem d_E_unite_131 : decode prog_1_method_8_code 131 = .ok (.invokevirtual 65, 3) := by decide +kernel
theorem d_E_unite_134 : decode prog_1_method_8_code 134 = .ok (.aload_n 0, 1) := by decide +kernel
theorem d_E_unite_135 : decode prog_1_method_8_code 135 = .ok (.getfield 19, 3) := by decide +kernel
theorem d_E_unite_138 : decode prog_1_method_8_code 138 = .ok (.getfield 100, 3) := by decide +kernel
theorem d_E_unite_141 : decode prog_1_method_8_code 141 = .ok (.ireturn, 1) := by decide +kernel
theorem d_E_demandEquation_0 : decode prog_1_method_18_code 0 = .ok (.aload_n 0, 1) := by decide +kernel
theorem d_E_demandEquation_1 : decode prog_1_method_18_code 1 = .ok (.getfield 10, 3) := by decide +kernel
theorem d_E_demandEquation_4 : decode prog_1_method_18_code 4 = .ok (.invokevirtual 194, 3) := by decide +kernel
theorem d_E_demandEquation_7 : decode prog_1_method_18_code 7 = .ok (.ifCond .ne 13, 3) := by decide +kernel
theorem d_E_demandEquation_10 : decode prog_1_method_18_code 10 = .ok (.new 79, 3) := by decide +kernel
theorem d_E_demandEquation_13 : decode prog_1_method_18_code 13 = .ok (.dup, 1) := by decide +kernel
theorem d_E_demandEquation_14 : decode prog_1_method_18_code 14 = .ok (.ldc 197, 2) := by decide +kernel
theorem d_E_demandEquation_16 : decode prog_1_method_18_code 16 = .ok (.invokespecial 83, 3) := by decide +kernel
theorem d_E_demandEquation_19 : decode prog_1_method_18_code 19 = .ok (.athrow, 1) := by decide +kernel
theorem d_E_demandEquation_20 : decode prog_1_method_18_code 20 = .ok (.return_, 1) := by decide +kernel
theorem d_E_same_0 : decode prog_1_method_9_code 0 = .ok (.aload_n 0, 1) := by decide +kernel
theorem d_E_same_1 : decode prog_1_method_9_code 1 = .ok (.invokevirtual 113, 3) := by decide +kernel
theorem d_E_same_4 : decode prog_1_method_9_code 4 = .ok (.aload_n 0, 1) := by decide +kernel
theorem d_E_same_5 : decode prog_1_method_9_code 5 = .ok (.getfield 28, 3) := by decide +kernel
theorem d_E_same_8 : decode prog_1_method_9_code 8 = .ok (.aload_n 0, 1) := by decide +kernel
theorem d_E_same_9 : decode prog_1_method_9_code 9 = .ok (.getfield 10, 3) := by decide +kernel
theorem d_E_same_12 : decode prog_1_method_9_code 12 = .ok (.getfield 68, 3) := by decide +kernel
theorem d_E_same_15 : decode prog_1_method_9_code 15 = .ok (.iconst 0, 1) := by decide +kernel
theorem d_E_same_16 : decode prog_1_method_9_code 16 = .ok (.aload_n 0, 1) := by decide +kernel
theorem d_E_same_17 : decode prog_1_method_9_code 17 = .ok (.getfield 10, 3) := by decide +kernel
theorem d_E_same_20 : decode prog_1_method_9_code 20 = .ok (.getfield 116, 3) := by decide +kernel
theorem d_E_same_23 : decode prog_1_method_9_code 23 = .ok (.iconst 0, 1) := by decide +kernel
theorem d_E_same_24 : decode prog_1_method_9_code 24 = .ok (.invokevirtual 103, 3) := by decide +kernel
theorem d_E_same_27 : decode prog_1_method_9_code 27 = .ok (.istore_n 1, 1) := by decide +kernel
theorem d_E_same_28 : decode prog_1_method_9_code 28 = .ok (.aload_n 0, 1) := by decide +kernel
theorem d_E_same_29 : decode prog_1_method_9_code 29 = .ok (.getfield 28, 3) := by decide +kernel
theorem d_E_same_32 : decode prog_1_method_9_code 32 = .ok (.aload_n 0, 1) := by decide +kernel
theorem d_E_same_33 : decode prog_1_method_9_code 33 = .ok (.getfield 10, 3) := by decide +kernel
theorem d_E_same_36 : decode prog_1_method_9_code 36 = .ok (.getfield 68, 3) := by decide +kernel
theorem d_E_same_39 : decode prog_1_method_9_code 39 = .ok (.aload_n 0, 1) := by decide +kernel
theorem d_E_same_40 : decode prog_1_method_9_code 40 = .ok (.getfield 10, 3) := by decide +kernel
theorem d_E_same_43 : decode prog_1_method_9_code 43 = .ok (.getfield 116, 3) := by decide +kernel
theorem d_E_same_46 : decode prog_1_method_9_code 46 = .ok (.iconst 1, 1) := by decide +kernel
theorem d_E_same_47 : decode prog_1_method_9_code 47 = .ok (.iadd, 1) := by decide +kernel
theorem d_E_same_48 : decode prog_1_method_9_code 48 = .ok (.aload_n 0, 1) := by decide +kernel
theorem d_E_same_49 : decode prog_1_method_9_code 49 = .ok (.getfield 10, 3) := by decide +kernel
theorem d_E_same_52 : decode prog_1_method_9_code 52 = .ok (.getfield 62, 3) := by decide +kernel
theorem d_E_same_55 : decode prog_1_method_9_code 55 = .ok (.iconst 0, 1) := by decide +kernel
theorem d_E_same_56 : decode prog_1_method_9_code 56 = .ok (.invokevirtual 103, 3) := by decide +kernel
theorem d_E_same_59 : decode prog_1_method_9_code 59 = .ok (.istore_n 2, 1) := by decide +kernel
theorem d_E_same_60 : decode prog_1_method_9_code 60 = .ok (.aload_n 0, 1) := by decide +kernel
theorem d_E_same_61 : decode prog_1_method_9_code 61 = .ok (.getfield 10, 3) := by decide +kernel
theorem d_E_same_64 : decode prog_1_method_9_code 64 = .ok (.invokevirtual 65, 3) := by decide +kernel
theorem d_E_same_67 : decode prog_1_method_9_code 67 = .ok (.iload_n 1, 1) := by decide +kernel
theorem d_E_same_68 : decode prog_1_method_9_code 68 = .ok (.iconst (-1), 1) := by decide +kernel
theorem d_E_same_69 : decode prog_1_method_9_code 69 = .ok (.if_icmp .eq 8, 3) := by decide +kernel
theorem d_E_same_72 : decode prog_1_method_9_code 72 = .ok (.iload_n 2, 1) := by decide +kernel
theorem d_E_same_73 : decode prog_1_method_9_code 73 = .ok (.iconst (-1), 1) := by decide +kernel
theorem d_E_same_74 : decode prog_1_method_9_code 74 = .ok (.if_icmp .ne 5, 3) := by decide +kernel
theorem d_E_same_77 : decode prog_1_method_9_code 77 = .ok (.iconst (-1), 1) := by decide +kernel
theorem d_E_same_78 : decode prog_1_method_9_code 78 = .ok (.ireturn, 1) := by decide +kernel
theorem d_E_same_79 : decode prog_1_method_9_code 79 = .ok (.iload_n 1, 1) := by decide +kernel
theorem d_E_same_80 : decode prog_1_method_9_code 80 = .ok (.iload_n 2, 1) := by decide +kernel
theorem d_E_same_81 : decode prog_1_method_9_code 81 = .ok (.if_icmp .ne 7, 3) := by decide +kernel
theorem d_E_same_84 : decode prog_1_method_9_code 84 = .ok (.iconst 1, 1) := by decide +kernel
theorem d_E_same_85 : decode prog_1_method_9_code 85 = .ok (.goto 4, 3) := by decide +kernel
theorem d_E_same_88 : decode prog_1_method_9_code 88 = .ok (.iconst 0, 1) := by decide +kernel
theorem d_E_same_89 : decode prog_1_method_9_code 89 = .ok (.ireturn, 1) := by decide +kernel
theorem d_E_price_0 : decode prog_1_method_10_code 0 = .ok (.iload_n 1, 1) := by decide +kernel
theorem d_E_price_1 : decode prog_1_method_10_code 1 = .ok (.invokestatic 128, 3) := by decide +kernel
theorem d_E_price_4 : decode prog_1_method_10_code 4 = .ok (.iconst (-1), 1) := by decide +kernel
theorem d_E_price_5 : decode prog_1_method_10_code 5 = .ok (.if_icmp .ne 13, 3) := by decide +kernel
theorem d_E_price_8 : decode prog_1_method_10_code 8 = .ok (.new 79, 3) := by decide +kernel
theorem d_E_price_11 : decode prog_1_method_10_code 11 = .ok (.dup, 1) := by decide +kernel
theorem d_E_price_12 : decode prog_1_method_10_code 12 = .ok (.ldc 134, 2) := by decide +kernel
theorem d_E_price_14 : decode prog_1_method_10_code 14 = .ok (.invokespecial 83, 3) := by decide +kernel
theorem d_E_price_17 : decode prog_1_method_10_code 17 = .ok (.athrow, 1) := by decide +kernel
theorem d_E_price_18 : decode prog_1_method_10_code 18 = .ok (.iload_n 2, 1) := by decide +kernel
theorem d_E_price_19 : decode prog_1_method_10_code 19 = .ok (.iconst 1, 1) := by decide +kernel
theorem d_E_price_20 : decode prog_1_method_10_code 20 = .ok (.if_icmp .lt 9, 3) := by decide +kernel
theorem d_E_price_23 : decode prog_1_method_10_code 23 = .ok (.iload_n 2, 1) := by decide +kernel
theorem d_E_price_24 : decode prog_1_method_10_code 24 = .ok (.ldc 136, 2) := by decide +kernel
theorem d_E_price_26 : decode prog_1_method_10_code 26 = .ok (.if_icmp .le 13, 3) := by decide +kernel
theorem d_E_price_29 : decode prog_1_method_10_code 29 = .ok (.new 79, 3) := by decide +kernel
theorem d_E_price_32 : decode prog_1_method_10_code 32 = .ok (.dup, 1) := by decide +kernel
theorem d_E_price_33 : decode prog_1_method_10_code 33 = .ok (.ldc 137, 2) := by decide +kernel
theorem d_E_price_35 : decode prog_1_method_10_code 35 = .ok (.invokespecial 83, 3) := by decide +kernel
theorem d_E_price_38 : decode prog_1_method_10_code 38 = .ok (.athrow, 1) := by decide +kernel
theorem d_E_price_39 : decode prog_1_method_10_code 39 = .ok (.aload_n 0, 1) := by decide +kernel
theorem d_E_price_40 : decode prog_1_method_10_code 40 = .ok (.getfield 44, 3) := by decide +kernel
theorem d_E_price_43 : decode prog_1_method_10_code 43 = .ok (.getfield 139, 3) := by decide +kernel
theorem d_E_price_46 : decode prog_1_method_10_code 46 = .ok (.iload_n 1, 1) := by decide +kernel
theorem d_E_price_47 : decode prog_1_method_10_code 47 = .ok (.iload_n 2, 1) := by decide +kernel
theorem d_E_price_48 : decode prog_1_method_10_code 48 = .ok (.iastore, 1) := by decide +kernel
theorem d_E_price_49 : decode prog_1_method_10_code 49 = .ok (.return_, 1) := by decide +kernel
theorem d_E_rounds_0 : decode prog_1_method_11_code 0 = .ok (.iload_n 1, 1) := by decide +kernel
theorem d_E_rounds_1 : decode prog_1_method_11_code 1 = .ok (.ifCond .lt 9, 3) := by decide +kernel
theorem d_E_rounds_4 : decode prog_1_method_11_code 4 = .ok (.iload_n 1, 1) := by decide +kernel
theorem d_E_rounds_5 : decode prog_1_method_11_code 5 = .ok (.bipush 20, 2) := by decide +kernel
theorem d_E_rounds_7 : decode prog_1_method_11_code 7 = .ok (.if_icmp .le 13, 3) := by decide +kernel
theorem d_E_rounds_10 : decode prog_1_method_11_code 10 = .ok (.new 79, 3) := by decide +kernel
theorem d_E_rounds_13 : decode prog_1_method_11_code 13 = .ok (.dup, 1) := by decide +kernel
theorem d_E_rounds_14 : decode prog_1_method_11_code 14 = .ok (.ldc 142, 2) := by decide +kernel
theorem d_E_rounds_16 : decode prog_1_method_11_code 16 = .ok (.invokespecial 83, 3) := by decide +kernel
theorem d_E_rounds_19 : decode prog_1_method_11_code 19 = .ok (.athrow, 1) := by decide +kernel
theorem d_E_rounds_20 : decode prog_1_method_11_code 20 = .ok (.iconst 0, 1) := by decide +kernel
theorem d_E_rounds_21 : decode prog_1_method_11_code 21 = .ok (.istore_n 2, 1) := by decide +kernel
theorem d_E_rounds_22 : decode prog_1_method_11_code 22 = .ok (.iconst 0, 1) := by decide +kernel
theorem d_E_rounds_23 : decode prog_1_method_11_code 23 = .ok (.istore_n 3, 1) := by decide +kernel
theorem d_E_rounds_24 : decode prog_1_method_11_code 24 = .ok (.iload_n 3, 1) := by decide +kernel
theorem d_E_rounds_25 : decode prog_1_method_11_code 25 = .ok (.iload_n 1, 1) := by decide +kernel
theorem d_E_rounds_26 : decode prog_1_method_11_code 26 = .ok (.if_icmp .ge 45, 3) := by decide +kernel
theorem d_E_rounds_29 : decode prog_1_method_11_code 29 = .ok (.aload_n 0, 1) := by decide +kernel
theorem d_E_rounds_30 : decode prog_1_method_11_code 30 = .ok (.getfield 37, 3) := by decide +kernel
theorem d_E_rounds_33 : decode prog_1_method_11_code 33 = .ok (.aload_n 0, 1) := by decide +kernel
theorem d_E_rounds_34 : decode prog_1_method_11_code 34 = .ok (.getfield 50, 3) := by decide +kernel
theorem d_E_rounds_37 : decode prog_1_method_11_code 37 = .ok (.aload_n 0, 1) := by decide +kernel
theorem d_E_rounds_38 : decode prog_1_method_11_code 38 = .ok (.getfield 54, 3) := by decide +kernel
theorem d_E_rounds_41 : decode prog_1_method_11_code 41 = .ok (.invokevirtual 144, 3) := by decide +kernel
theorem d_E_rounds_44 : decode prog_1_method_11_code 44 = .ok (.ifCond .ne 6, 3) := by decide +kernel
theorem d_E_rounds_47 : decode prog_1_method_11_code 47 = .ok (.bipush (-2), 2) := by decide +kernel
theorem d_E_rounds_49 : decode prog_1_method_11_code 49 = .ok (.ireturn, 1) := by decide +kernel
theorem d_E_rounds_50 : decode prog_1_method_11_code 50 = .ok (.aload_n 0, 1) := by decide +kernel
theorem d_E_rounds_51 : decode prog_1_method_11_code 51 = .ok (.getfield 37, 3) := by decide +kernel
theorem d_E_rounds_54 : decode prog_1_method_11_code 54 = .ok (.getfield 148, 3) := by decide +kernel
theorem d_E_rounds_57 : decode prog_1_method_11_code 57 = .ok (.ifCond .ne 5, 3) := by decide +kernel
theorem d_E_rounds_60 : decode prog_1_method_11_code 60 = .ok (.iload_n 2, 1) := by decide +kernel
theorem d_E_rounds_61 : decode prog_1_method_11_code 61 = .ok (.ireturn, 1) := by decide +kernel
theorem d_E_rounds_62 : decode prog_1_method_11_code 62 = .ok (.iinc 2 1, 3) := by decide +kernel
theorem d_E_rounds_65 : decode prog_1_method_11_code 65 = .ok (.iinc 3 1, 3) := by decide +kernel
theorem d_E_rounds_68 : decode prog_1_method_11_code 68 = .ok (.goto (-44), 3) := by decide +kernel
theorem d_E_rounds_71 : decode prog_1_method_11_code 71 = .ok (.iload_n 2, 1) := by decide +kernel
theorem d_E_rounds_72 : decode prog_1_method_11_code 72 = .ok (.ireturn, 1) := by decide +kernel
theorem d_E_members_0 : decode prog_1_method_14_code 0 = .ok (.aload_n 0, 1) := by decide +kernel
theorem d_E_members_1 : decode prog_1_method_14_code 1 = .ok (.invokevirtual 152, 3) := by decide +kernel
theorem d_E_members_4 : decode prog_1_method_14_code 4 = .ok (.istore_n 1, 1) := by decide +kernel
theorem d_E_members_5 : decode prog_1_method_14_code 5 = .ok (.iload_n 1, 1) := by decide +kernel
theorem d_E_members_6 : decode prog_1_method_14_code 6 = .ok (.iconst (-1), 1) := by decide +kernel
theorem d_E_members_7 : decode prog_1_method_14_code 7 = .ok (.if_icmp .ne 7, 3) := by decide +kernel
theorem d_E_members_10 : decode prog_1_method_14_code 10 = .ok (.iconst (-1), 1) := by decide +kernel
theorem d_E_members_11 : decode prog_1_method_14_code 11 = .ok (.goto 11, 3) := by decide +kernel
theorem d_E_members_14 : decode prog_1_method_14_code 14 = .ok (.aload_n 0, 1) := by decide +kernel
theorem d_E_members_15 : decode prog_1_method_14_code 15 = .ok (.getfield 19, 3) := by decide +kernel
theorem d_E_members_18 : decode prog_1_method_14_code 18 = .ok (.iload_n 1, 1) := by decide +kernel
theorem d_E_members_19 : decode prog_1_method_14_code 19 = .ok (.invokevirtual 156, 3) := by decide +kernel
theorem d_E_members_22 : decode prog_1_method_14_code 22 = .ok (.ireturn, 1) := by decide +kernel
theorem d_E_takeTerm_0 : decode prog_1_method_19_code 0 = .ok (.aload_n 0, 1) := by decide +kernel
theorem d_E_takeTerm_1 : decode prog_1_method_19_code 1 = .ok (.invokevirtual 94, 3) := by decide +kernel
theorem d_E_takeTerm_4 : decode prog_1_method_19_code 4 = .ok (.aload_n 0, 1) := by decide +kernel
theorem d_E_takeTerm_5 : decode prog_1_method_19_code 5 = .ok (.getfield 28, 3) := by decide +kernel
theorem d_E_takeTerm_8 : decode prog_1_method_19_code 8 = .ok (.aload_n 0, 1) := by decide +kernel
theorem d_E_takeTerm_9 : decode prog_1_method_19_code 9 = .ok (.getfield 10, 3) := by decide +kernel
theorem d_E_takeTerm_12 : decode prog_1_method_19_code 12 = .ok (.getfield 68, 3) := by decide +kernel
theorem d_E_takeTerm_15 : decode prog_1_method_19_code 15 = .ok (.iconst 0, 1) := by decide +kernel
theorem d_E_takeTerm_16 : decode prog_1_method_19_code 16 = .ok (.aload_n 0, 1) := by decide +kernel
theorem d_E_takeTerm_17 : decode prog_1_method_19_code 17 = .ok (.getfield 10, 3) := by decide +kernel
theorem d_E_takeTerm_20 : decode prog_1_method_19_code 20 = .ok (.getfield 62, 3) := by decide +kernel
theorem d_E_takeTerm_23 : decode prog_1_method_19_code 23 = .ok (.iconst 0, 1) := by decide +kernel
theorem d_E_takeTerm_24 : decode prog_1_method_19_code 24 = .ok (.invokevirtual 103, 3) := by decide +kernel
theorem d_E_takeTerm_27 : decode prog_1_method_19_code 27 = .ok (.istore_n 1, 1) := by decide +kernel
theorem d_E_takeTerm_28 : decode prog_1_method_19_code 28 = .ok (.aload_n 0, 1) := by decide +kernel
theorem d_E_takeTerm_29 : decode prog_1_method_19_code 29 = .ok (.getfield 10, 3) := by decide +kernel
theorem d_E_takeTerm_32 : decode prog_1_method_19_code 32 = .ok (.invokevirtual 65, 3) := by decide +kernel
theorem d_E_takeTerm_35 : decode prog_1_method_19_code 35 = .ok (.iload_n 1, 1) := by decide +kernel
theorem d_E_takeTerm_36 : decode prog_1_method_19_code 36 = .ok (.ireturn, 1) := by decide +kernel
theorem d_E_cost_0 : decode prog_1_method_15_code 0 = .ok (.aload_n 0, 1) := by decide +kernel
theorem d_E_cost_1 : decode prog_1_method_15_code 1 = .ok (.invokevirtual 152, 3) := by decide +kernel
theorem d_E_cost_4 : decode prog_1_method_15_code 4 = .ok (.istore_n 1, 1) := by decide +kernel
theorem d_E_cost_5 : decode prog_1_method_15_code 5 = .ok (.iload_n 1, 1) := by decide +kernel
theorem d_E_cost_6 : decode prog_1_method_15_code 6 = .ok (.iconst (-1), 1) := by decide +kernel
theorem d_E_cost_7 : decode prog_1_method_15_code 7 = .ok (.if_icmp .ne 7, 3) := by decide +kernel
theorem d_E_cost_10 : decode prog_1_method_15_code 10 = .ok (.ldc2_w 159, 3) := by decide +kernel
theorem d_E_cost_13 : decode prog_1_method_15_code 13 = .ok (.lreturn, 1) := by decide +kernel
theorem d_E_cost_14 : decode prog_1_method_15_code 14 = .ok (.aload_n 0, 1) := by decide +kernel
theorem d_E_cost_15 : decode prog_1_method_15_code 15 = .ok (.getfield 44, 3) := by decide +kernel
theorem d_E_cost_18 : decode prog_1_method_15_code 18 = .ok (.invokevirtual 161, 3) := by decide +kernel
theorem d_E_cost_21 : decode prog_1_method_15_code 21 = .ok (.aload_n 0, 1) := by decide +kernel
theorem d_E_cost_22 : decode prog_1_method_15_code 22 = .ok (.getfield 44, 3) := by decide +kernel
theorem d_E_cost_25 : decode prog_1_method_15_code 25 = .ok (.getfield 164, 3) := by decide +kernel
theorem d_E_cost_28 : decode prog_1_method_15_code 28 = .ok (.iload_n 1, 1) := by decide +kernel
theorem d_E_cost_29 : decode prog_1_method_15_code 29 = .ok (.laload, 1) := by decide +kernel
theorem d_E_cost_30 : decode prog_1_method_15_code 30 = .ok (.ldc2_w 168, 3) := by decide +kernel
theorem d_E_cost_33 : decode prog_1_method_15_code 33 = .ok (.lcmp, 1) := by decide +kernel
theorem d_E_cost_34 : decode prog_1_method_15_code 34 = .ok (.ifCond .le 9, 3) := by decide +kernel
theorem d_E_cost_37 : decode prog_1_method_15_code 37 = .ok (.ldc2_w 170, 3) := by decide +kernel
theorem d_E_cost_40 : decode prog_1_method_15_code 40 = .ok (.goto 12, 3) := by decide +kernel
theorem d_E_cost_43 : decode prog_1_method_15_code 43 = .ok (.aload_n 0, 1) := by decide +kernel
theorem d_E_cost_44 : decode prog_1_method_15_code 44 = .ok (.getfield 44, 3) := by decide +kernel
theorem d_E_cost_47 : decode prog_1_method_15_code 47 = .ok (.getfield 164, 3) := by decide +kernel
theorem d_E_cost_50 : decode prog_1_method_15_code 50 = .ok (.iload_n 1, 1) := by decide +kernel
theorem d_E_cost_51 : decode prog_1_method_15_code 51 = .ok (.laload, 1) := by decide +kernel
theorem d_E_cost_52 : decode prog_1_method_15_code 52 = .ok (.lreturn, 1) := by decide +kernel
theorem d_E_best_0 : decode prog_1_method_16_code 0 = .ok (.aload_n 0, 1) := by decide +kernel
theorem d_E_best_1 : decode prog_1_method_16_code 1 = .ok (.invokevirtual 152, 3) := by decide +kernel
theorem d_E_best_4 : decode prog_1_method_16_code 4 = .ok (.istore_n 1, 1) := by decide +kernel
theorem d_E_best_5 : decode prog_1_method_16_code 5 = .ok (.iload_n 1, 1) := by decide +kernel
theorem d_E_best_6 : decode prog_1_method_16_code 6 = .ok (.iconst (-1), 1) := by decide +kernel
theorem d_E_best_7 : decode prog_1_method_16_code 7 = .ok (.if_icmp .ne 5, 3) := by decide +kernel
theorem d_E_best_10 : decode prog_1_method_16_code 10 = .ok (.iconst (-1), 1) := by decide +kernel
theorem d_E_best_11 : decode prog_1_method_16_code 11 = .ok (.ireturn, 1) := by decide +kernel
theorem d_E_best_12 : decode prog_1_method_16_code 12 = .ok (.aload_n 0, 1) := by decide +kernel
theorem d_E_best_13 : decode prog_1_method_16_code 13 = .ok (.getfield 44, 3) := by decide +kernel
theorem d_E_best_16 : decode prog_1_method_16_code 16 = .ok (.invokevirtual 161, 3) := by decide +kernel
theorem d_E_best_19 : decode prog_1_method_16_code 19 = .ok (.aload_n 0, 1) := by decide +kernel
theorem d_E_best_20 : decode prog_1_method_16_code 20 = .ok (.getfield 44, 3) := by decide +kernel
theorem d_E_best_23 : decode prog_1_method_16_code 23 = .ok (.getfield 164, 3) := by decide +kernel
theorem d_E_best_26 : decode prog_1_method_16_code 26 = .ok (.iload_n 1, 1) := by decide +kernel
theorem d_E_best_27 : decode prog_1_method_16_code 27 = .ok (.laload, 1) := by decide +kernel
theorem d_E_best_28 : decode prog_1_method_16_code 28 = .ok (.ldc2_w 168, 3) := by decide +kernel
theorem d_E_best_31 : decode prog_1_method_16_code 31 = .ok (.lcmp, 1) := by decide +kernel
theorem d_E_best_32 : decode prog_1_method_16_code 32 = .ok (.ifCond .le 6, 3) := by decide +kernel
theorem d_E_best_35 : decode prog_1_method_16_code 35 = .ok (.bipush (-3), 2) := by decide +kernel
theorem d_E_best_37 : decode prog_1_method_16_code 37 = .ok (.ireturn, 1) := by decide +kernel
theorem d_E_best_38 : decode prog_1_method_16_code 38 = .ok (.aload_n 0, 1) := by decide +kernel
theorem d_E_best_39 : decode prog_1_method_16_code 39 = .ok (.getfield 44, 3) := by decide +kernel
theorem d_E_best_42 : decode prog_1_method_16_code 42 = .ok (.getfield 172, 3) := by decide +kernel
theorem d_E_best_45 : decode prog_1_method_16_code 45 = .ok (.iload_n 1, 1) := by decide +kernel
theorem d_E_best_46 : decode prog_1_method_16_code 46 = .ok (.laload, 1) := by decide +kernel
theorem d_E_best_47 : decode prog_1_method_16_code 47 = .ok (.ldc2_w 175, 3) := by decide +kernel
theorem d_E_best_50 : decode prog_1_method_16_code 50 = .ok (.lcmp, 1) := by decide +kernel
theorem d_E_best_51 : decode prog_1_method_16_code 51 = .ok (.ifCond .le 6, 3) := by decide +kernel
theorem d_E_best_54 : decode prog_1_method_16_code 54 = .ok (.bipush (-4), 2) := by decide +kernel
theorem d_E_best_56 : decode prog_1_method_16_code 56 = .ok (.ireturn, 1) := by decide +kernel
theorem d_E_best_57 : decode prog_1_method_16_code 57 = .ok (.aload_n 0, 1) := by decide +kernel
theorem d_E_best_58 : decode prog_1_method_16_code 58 = .ok (.getfield 44, 3) := by decide +kernel
theorem d_E_best_61 : decode prog_1_method_16_code 61 = .ok (.getfield 172, 3) := by decide +kernel
theorem d_E_best_64 : decode prog_1_method_16_code 64 = .ok (.iload_n 1, 1) := by decide +kernel
theorem d_E_best_65 : decode prog_1_method_16_code 65 = .ok (.laload, 1) := by decide +kernel
theorem d_E_best_66 : decode prog_1_method_16_code 66 = .ok (.l2i, 1) := by decide +kernel
theorem d_E_best_67 : decode prog_1_method_16_code 67 = .ok (.istore_n 2, 1) := by decide +kernel
theorem d_E_best_68 : decode prog_1_method_16_code 68 = .ok (.aload_n 0, 1) := by decide +kernel
theorem d_E_best_69 : decode prog_1_method_16_code 69 = .ok (.getfield 44, 3) := by decide +kernel
theorem d_E_best_72 : decode prog_1_method_16_code 72 = .ok (.iload_n 2, 1) := by decide +kernel
theorem d_E_best_73 : decode prog_1_method_16_code 73 = .ok (.invokevirtual 177, 3) := by decide +kernel
theorem d_E_best_76 : decode prog_1_method_16_code 76 = .ok (.aload_n 0, 1) := by decide +kernel
theorem d_E_best_77 : decode prog_1_method_16_code 77 = .ok (.getfield 10, 3) := by decide +kernel
theorem d_E_best_80 : decode prog_1_method_16_code 80 = .ok (.aload_n 0, 1) := by decide +kernel
theorem d_E_best_81 : decode prog_1_method_16_code 81 = .ok (.getfield 44, 3) := by decide +kernel
theorem d_E_best_84 : decode prog_1_method_16_code 84 = .ok (.getfield 181, 3) := by decide +kernel
theorem d_E_best_87 : decode prog_1_method_16_code 87 = .ok (.iload_n 1, 1) := by decide +kernel
theorem d_E_best_88 : decode prog_1_method_16_code 88 = .ok (.aaload, 1) := by decide +kernel
theorem d_E_best_89 : decode prog_1_method_16_code 89 = .ok (.iload_n 2, 1) := by decide +kernel
theorem d_E_best_90 : decode prog_1_method_16_code 90 = .ok (.invokevirtual 185, 3) := by decide +kernel
theorem d_E_best_93 : decode prog_1_method_16_code 93 = .ok (.iload_n 2, 1) := by decide +kernel
theorem d_E_best_94 : decode prog_1_method_16_code 94 = .ok (.ireturn, 1) := by decide +kernel
end
section
theorem d_L_rule_0 : decode method_3_code 0 = .ok (.aload_n 1, 1) := by decide +kernel
theorem d_L_rule_1 : decode method_3_code 1 = .ok (.iconst 0, 1) := by decide +kernel
theorem d_L_rule_2 : decode method_3_code 2 = .ok (.aload_n 0, 1) := by decide +kernel
theorem d_L_rule_3 : decode method_3_code 3 = .ok (.invokevirtual 7, 3) := by decide +kernel
theorem d_L_rule_6 : decode method_3_code 6 = .ok (.i2l, 1) := by decide +kernel
theorem d_L_rule_7 : decode method_3_code 7 = .ok (.lastore, 1) := by decide +kernel
theorem d_L_rule_8 : decode method_3_code 8 = .ok (.goto 9, 3) := by decide +kernel
theorem d_L_rule_11 : decode method_3_code 11 = .ok (.astore_n 2, 1) := by decide +kernel
theorem d_L_rule_12 : decode method_3_code 12 = .ok (.iconst 1, 1) := by decide +kernel
theorem d_L_rule_13 : decode method_3_code 13 = .ok (.ireturn, 1) := by decide +kernel
theorem d_L_rule_14 : decode method_3_code 14 = .ok (.astore_n 2, 1) := by decide +kernel
theorem d_L_rule_15 : decode method_3_code 15 = .ok (.iconst 2, 1) := by decide +kernel
theorem d_L_rule_16 : decode method_3_code 16 = .ok (.ireturn, 1) := by decide +kernel
theorem d_L_rule_17 : decode method_3_code 17 = .ok (.iconst 0, 1) := by decide +kernel
theorem d_L_rule_18 : decode method_3_code 18 = .ok (.ireturn, 1) := by decide +kernel
theorem d_L_add_0 : decode method_4_code 0 = .ok (.aload_n 1, 1) := by decide +kernel
theorem d_L_add_1 : decode method_4_code 1 = .ok (.iconst 0, 1) := by decide +kernel
theorem d_L_add_2 : decode method_4_code 2 = .ok (.aload_n 0, 1) := by decide +kernel
theorem d_L_add_3 : decode method_4_code 3 = .ok (.invokevirtual 17, 3) := by decide +kernel
theorem d_L_add_6 : decode method_4_code 6 = .ok (.i2l, 1) := by decide +kernel
theorem d_L_add_7 : decode method_4_code 7 = .ok (.lastore, 1) := by decide +kernel
theorem d_L_add_8 : decode method_4_code 8 = .ok (.goto 9, 3) := by decide +kernel
theorem d_L_add_11 : decode method_4_code 11 = .ok (.astore_n 2, 1) := by decide +kernel
theorem d_L_add_12 : decode method_4_code 12 = .ok (.iconst 1, 1) := by decide +kernel
theorem d_L_add_13 : decode method_4_code 13 = .ok (.ireturn, 1) := by decide +kernel
theorem d_L_add_14 : decode method_4_code 14 = .ok (.astore_n 2, 1) := by decide +kernel
theorem d_L_add_15 : decode method_4_code 15 = .ok (.iconst 2, 1) := by decide +kernel
theorem d_L_add_16 : decode method_4_code 16 = .ok (.ireturn, 1) := by decide +kernel
theorem d_L_add_17 : decode method_4_code 17 = .ok (.iconst 0, 1) := by decide +kernel
theorem d_L_add_18 : decode method_4_code 18 = .ok (.ireturn, 1) := by decide +kernel
theorem d_L_unite_0 : decode method_5_code 0 = .ok (.aload_n 1, 1) := by decide +kernel
theorem d_L_unite_1 : decode method_5_code 1 = .ok (.iconst 0, 1) := by decide +kernel
theorem d_L_unite_2 : decode method_5_code 2 = .ok (.aload_n 0, 1) := by decide +kernel
theorem d_L_unite_3 : decode method_5_code 3 = .ok (.invokevirtual 20, 3) := by decide +kernel
theorem d_L_unite_6 : decode method_5_code 6 = .ok (.i2l, 1) := by decide +kernel
theorem d_L_unite_7 : decode method_5_code 7 = .ok (.lastore, 1) := by decide +kernel
theorem d_L_unite_8 : decode method_5_code 8 = .ok (.goto 9, 3) := by decide +kernel
theorem d_L_unite_11 : decode method_5_code 11 = .ok (.astore_n 2, 1) := by decide +kernel
theorem d_L_unite_12 : decode method_5_code 12 = .ok (.iconst 1, 1) := by decide +kernel
theorem d_L_unite_13 : decode method_5_code 13 = .ok (.ireturn, 1) := by decide +kernel
theorem d_L_unite_14 : decode method_5_code 14 = .ok (.astore_n 2, 1) := by decide +kernel
theorem d_L_unite_15 : decode method_5_code 15 = .ok (.iconst 2, 1) := by decide +kernel
theorem d_L_unite_16 : decode method_5_code 16 = .ok (.ireturn, 1) := by decide +kernel
theorem d_L_unite_17 : decode method_5_code 17 = .ok (.iconst 0, 1) := by decide +kernel
theorem d_L_unite_18 : decode method_5_code 18 = .ok (.ireturn, 1) := by decide +kernel
theorem d_L_same_0 : decode method_6_code 0 = .ok (.aload_n 1, 1) := by decide +kernel
theorem d_L_same_1 : decode method_6_code 1 = .ok (.iconst 0, 1) := by decide +kernel
theorem d_L_same_2 : decode method_6_code 2 = .ok (.aload_n 0, 1) := by decide +kernel
theorem d_L_same_3 : decode method_6_code 3 = .ok (.invokevirtual 23, 3) := by decide +kernel
theorem d_L_same_6 : decode method_6_code 6 = .ok (.i2l, 1) := by decide +kernel
theorem d_L_same_7 : decode method_6_code 7 = .ok (.lastore, 1) := by decide +kernel
theorem d_L_same_8 : decode method_6_code 8 = .ok (.goto 6, 3) := by decide +kernel
theorem d_L_same_11 : decode method_6_code 11 = .ok (.astore_n 2, 1) := by decide +kernel
theorem d_L_same_12 : decode method_6_code 12 = .ok (.iconst 1, 1) := by decide +kernel
theorem d_L_same_13 : decode method_6_code 13 = .ok (.ireturn, 1) := by decide +kernel
theorem d_L_same_14 : decode method_6_code 14 = .ok (.iconst 0, 1) := by decide +kernel
theorem d_L_same_15 : decode method_6_code 15 = .ok (.ireturn, 1) := by decide +kernel
theorem d_L_price_0 : decode method_7_code 0 = .ok (.aload_n 0, 1) := by decide +kernel
theorem d_L_price_1 : decode method_7_code 1 = .ok (.iload_n 1, 1) := by decide +kernel
theorem d_L_price_2 : decode method_7_code 2 = .ok (.iload_n 2, 1) := by decide +kernel
theorem d_L_price_3 : decode method_7_code 3 = .ok (.invokevirtual 26, 3) := by decide +kernel
theorem d_L_price_6 : decode method_7_code 6 = .ok (.goto 6, 3) := by decide +kernel
theorem d_L_price_9 : decode method_7_code 9 = .ok (.astore_n 3, 1) := by decide +kernel
theorem d_L_price_10 : decode method_7_code 10 = .ok (.iconst 1, 1) := by decide +kernel
theorem d_L_price_11 : decode method_7_code 11 = .ok (.ireturn, 1) := by decide +kernel
theorem d_L_price_12 : decode method_7_code 12 = .ok (.iconst 0, 1) := by decide +kernel
theorem d_L_price_13 : decode method_7_code 13 = .ok (.ireturn, 1) := by decide +kernel
theorem d_L_rounds_0 : decode method_8_code 0 = .ok (.aload_n 2, 1) := by decide +kernel
theorem d_L_rounds_1 : decode method_8_code 1 = .ok (.iconst 0, 1) := by decide +kernel
theorem d_L_rounds_2 : decode method_8_code 2 = .ok (.aload_n 0, 1) := by decide +kernel
theorem d_L_rounds_3 : decode method_8_code 3 = .ok (.iload_n 1, 1) := by decide +kernel
theorem d_L_rounds_4 : decode method_8_code 4 = .ok (.invokevirtual 30, 3) := by decide +kernel
theorem d_L_rounds_7 : decode method_8_code 7 = .ok (.i2l, 1) := by decide +kernel
theorem d_L_rounds_8 : decode method_8_code 8 = .ok (.lastore, 1) := by decide +kernel
theorem d_L_rounds_9 : decode method_8_code 9 = .ok (.goto 6, 3) := by decide +kernel
theorem d_L_rounds_12 : decode method_8_code 12 = .ok (.astore_n 3, 1) := by decide +kernel
theorem d_L_rounds_13 : decode method_8_code 13 = .ok (.iconst 1, 1) := by decide +kernel
theorem d_L_rounds_14 : decode method_8_code 14 = .ok (.ireturn, 1) := by decide +kernel
theorem d_L_rounds_15 : decode method_8_code 15 = .ok (.iconst 0, 1) := by decide +kernel
theorem d_L_rounds_16 : decode method_8_code 16 = .ok (.ireturn, 1) := by decide +kernel
theorem d_L_members_0 : decode method_9_code 0 = .ok (.aload_n 1, 1) := by decide +kernel
theorem d_L_members_1 : decode method_9_code 1 = .ok (.iconst 0, 1) := by decide +kernel
theorem d_L_members_2 : decode method_9_code 2 = .ok (.aload_n 0, 1) := by decide +kernel
theorem d_L_members_3 : decode method_9_code 3 = .ok (.invokevirtual 34, 3) := by decide +kernel
theorem d_L_members_6 : decode method_9_code 6 = .ok (.i2l, 1) := by decide +kernel
theorem d_L_members_7 : decode method_9_code 7 = .ok (.lastore, 1) := by decide +kernel
theorem d_L_members_8 : decode method_9_code 8 = .ok (.goto 6, 3) := by decide +kernel
theorem d_L_members_11 : decode method_9_code 11 = .ok (.astore_n 2, 1) := by decide +kernel
theorem d_L_members_12 : decode method_9_code 12 = .ok (.iconst 1, 1) := by decide +kernel
theorem d_L_members_13 : decode method_9_code 13 = .ok (.ireturn, 1) := by decide +kernel
theorem d_L_members_14 : decode method_9_code 14 = .ok (.iconst 0, 1) := by decide +kernel
theorem d_L_members_15 : decode method_9_code 15 = .ok (.ireturn, 1) := by decide +kernel
theorem d_L_cost_0 : decode method_10_code 0 = .ok (.aload_n 1, 1) := by decide +kernel
theorem d_L_cost_1 : decode method_10_code 1 = .ok (.iconst 0, 1) := by decide +kernel
theorem d_L_cost_2 : decode method_10_code 2 = .ok (.aload_n 0, 1) := by decide +kernel
theorem d_L_cost_3 : decode method_10_code 3 = .ok (.invokevirtual 37, 3) := by decide +kernel
theorem d_L_cost_6 : decode method_10_code 6 = .ok (.lastore, 1) := by decide +kernel
theorem d_L_cost_7 : decode method_10_code 7 = .ok (.goto 6, 3) := by decide +kernel
theorem d_L_cost_10 : decode method_10_code 10 = .ok (.astore_n 2, 1) := by decide +kernel
theorem d_L_cost_11 : decode method_10_code 11 = .ok (.iconst 1, 1) := by decide +kernel
theorem d_L_cost_12 : decode method_10_code 12 = .ok (.ireturn, 1) := by decide +kernel
theorem d_L_cost_13 : decode method_10_code 13 = .ok (.iconst 0, 1) := by decide +kernel
theorem d_L_cost_14 : decode method_10_code 14 = .ok (.ireturn, 1) := by decide +kernel
theorem d_L_best_0 : decode method_11_code 0 = .ok (.aload_n 1, 1) := by decide +kernel
theorem d_L_best_1 : decode method_11_code 1 = .ok (.iconst 0, 1) := by decide +kernel
theorem d_L_best_2 : decode method_11_code 2 = .ok (.aload_n 0, 1) := by decide +kernel
theorem d_L_best_3 : decode method_11_code 3 = .ok (.invokevirtual 41, 3) := by decide +kernel
theorem d_L_best_6 : decode method_11_code 6 = .ok (.i2l, 1) := by decide +kernel
theorem d_L_best_7 : decode method_11_code 7 = .ok (.lastore, 1) := by decide +kernel
theorem d_L_best_8 : decode method_11_code 8 = .ok (.goto 6, 3) := by decide +kernel
theorem d_L_best_11 : decode method_11_code 11 = .ok (.astore_n 2, 1) := by decide +kernel
theorem d_L_best_12 : decode method_11_code 12 = .ok (.iconst 1, 1) := by decide +kernel
theorem d_L_best_13 : decode method_11_code 13 = .ok (.ireturn, 1) := by decide +kernel
theorem d_L_best_14 : decode method_11_code 14 = .ok (.iconst 0, 1) := by decide +kernel
theorem d_L_best_15 : decode method_11_code 15 = .ok (.ireturn, 1) := by decide +kernel
end
section
theorem d_M_init_0 : decode prog_10_method_1_code 0 = .ok (.aload_n 0, 1) := by decide +kernel
theorem d_M_init_1 : decode prog_10_method_1_code 1 = .ok (.invokespecial 1, 3) := by decide +kernel
theorem d_M_init_4 : decode prog_10_method_1_code 4 = .ok (.aload_n 0, 1) := by decide +kernel
theorem d_M_init_5 : decode prog_10_method_1_code 5 = .ok (.bipush 60, 2) := by decide +kernel
theorem d_M_init_7 : decode prog_10_method_1_code 7 = .ok (.newarray .int, 2) := by decide +kernel
theorem d_M_init_9 : decode prog_10_method_1_code 9 = .ok (.putfield 7, 3) := by decide +kernel
theorem d_M_init_12 : decode prog_10_method_1_code 12 = .ok (.aload_n 0, 1) := by decide +kernel
theorem d_M_init_13 : decode prog_10_method_1_code 13 = .ok (.iconst (-1), 1) := by decide +kernel
theorem d_M_init_14 : decode prog_10_method_1_code 14 = .ok (.putfield 13, 3) := by decide +kernel
theorem d_M_init_17 : decode prog_10_method_1_code 17 = .ok (.aload_n 0, 1) := by decide +kernel
theorem d_M_init_18 : decode prog_10_method_1_code 18 = .ok (.bipush 84, 2) := by decide +kernel
theorem d_M_init_20 : decode prog_10_method_1_code 20 = .ok (.newarray .int, 2) := by decide +kernel
theorem d_M_init_22 : decode prog_10_method_1_code 22 = .ok (.putfield 17, 3) := by decide +kernel
theorem d_M_init_25 : decode prog_10_method_1_code 25 = .ok (.aload_n 0, 1) := by decide +kernel
theorem d_M_init_26 : decode prog_10_method_1_code 26 = .ok (.bipush 12, 2) := by decide +kernel
theorem d_M_init_28 : decode prog_10_method_1_code 28 = .ok (.newarray .int, 2) := by decide +kernel
theorem d_M_init_30 : decode prog_10_method_1_code 30 = .ok (.putfield 20, 3) := by decide +kernel
theorem d_M_init_33 : decode prog_10_method_1_code 33 = .ok (.aload_n 0, 1) := by decide +kernel
theorem d_M_init_34 : decode prog_10_method_1_code 34 = .ok (.bipush 104, 2) := by decide +kernel
theorem d_M_init_36 : decode prog_10_method_1_code 36 = .ok (.newarray .int, 2) := by decide +kernel
theorem d_M_init_38 : decode prog_10_method_1_code 38 = .ok (.putfield 23, 3) := by decide +kernel
theorem d_M_init_41 : decode prog_10_method_1_code 41 = .ok (.aload_n 0, 1) := by decide +kernel
theorem d_M_init_42 : decode prog_10_method_1_code 42 = .ok (.bipush 104, 2) := by decide +kernel
theorem d_M_init_44 : decode prog_10_method_1_code 44 = .ok (.newarray .int, 2) := by decide +kernel
theorem d_M_init_46 : decode prog_10_method_1_code 46 = .ok (.putfield 26, 3) := by decide +kernel
theorem d_M_init_49 : decode prog_10_method_1_code 49 = .ok (.aload_n 0, 1) := by decide +kernel
theorem d_M_init_50 : decode prog_10_method_1_code 50 = .ok (.bipush 104, 2) := by decide +kernel
theorem d_M_init_52 : decode prog_10_method_1_code 52 = .ok (.newarray .int, 2) := by decide +kernel
theorem d_M_init_54 : decode prog_10_method_1_code 54 = .ok (.putfield 29, 3) := by decide +kernel
theorem d_M_init_57 : decode prog_10_method_1_code 57 = .ok (.aload_n 0, 1) := by decide +kernel
theorem d_M_init_58 : decode prog_10_method_1_code 58 = .ok (.bipush 104, 2) := by decide +kernel
theorem d_M_init_60 : decode prog_10_method_1_code 60 = .ok (.newarray .int, 2) := by decide +kernel
theorem d_M_init_62 : decode prog_10_method_1_code 62 = .ok (.putfield 32, 3) := by decide +kernel
theorem d_M_init_65 : decode prog_10_method_1_code 65 = .ok (.aload_n 0, 1) := by decide +kernel
theorem d_M_init_66 : decode prog_10_method_1_code 66 = .ok (.bipush 104, 2) := by decide +kernel
theorem d_M_init_68 : decode prog_10_method_1_code 68 = .ok (.newarray .int, 2) := by decide +kernel
theorem d_M_init_70 : decode prog_10_method_1_code 70 = .ok (.putfield 35, 3) := by decide +kernel
theorem d_M_init_73 : decode prog_10_method_1_code 73 = .ok (.aload_n 0, 1) := by decide +kernel
theorem d_M_init_74 : decode prog_10_method_1_code 74 = .ok (.bipush 104, 2) := by decide +kernel
theorem d_M_init_76 : decode prog_10_method_1_code 76 = .ok (.newarray .int, 2) := by decide +kernel
theorem d_M_init_78 : decode prog_10_method_1_code 78 = .ok (.putfield 38, 3) := by decide +kernel
theorem d_M_init_81 : decode prog_10_method_1_code 81 = .ok (.aload_n 0, 1) := by decide +kernel
theorem d_M_init_82 : decode prog_10_method_1_code 82 = .ok (.bipush 62, 2) := by decide +kernel
theorem d_M_init_84 : decode prog_10_method_1_code 84 = .ok (.newarray .int, 2) := by decide +kernel
theorem d_M_init_86 : decode prog_10_method_1_code 86 = .ok (.putfield 41, 3) := by decide +kernel
theorem d_M_init_89 : decode prog_10_method_1_code 89 = .ok (.aload_n 0, 1) := by decide +kernel
theorem d_M_init_90 : decode prog_10_method_1_code 90 = .ok (.iconst 3, 1) := by decide +kernel
theorem d_M_init_91 : decode prog_10_method_1_code 91 = .ok (.newarray .int, 2) := by decide +kernel
theorem d_M_init_93 : decode prog_10_method_1_code 93 = .ok (.putfield 44, 3) := by decide +kernel
theorem d_M_init_96 : decode prog_10_method_1_code 96 = .ok (.aload_n 0, 1) := by decide +kernel
theorem d_M_init_97 : decode prog_10_method_1_code 97 = .ok (.sipush 128, 3) := by decide +kernel
theorem d_M_init_100 : decode prog_10_method_1_code 100 = .ok (.newarray .int, 2) := by decide +kernel
theorem d_M_init_102 : decode prog_10_method_1_code 102 = .ok (.putfield 47, 3) := by decide +kernel
theorem d_M_init_105 : decode prog_10_method_1_code 105 = .ok (.aload_n 0, 1) := by decide +kernel
theorem d_M_init_106 : decode prog_10_method_1_code 106 = .ok (.bipush 80, 2) := by decide +kernel
theorem d_M_init_108 : decode prog_10_method_1_code 108 = .ok (.newarray .int, 2) := by decide +kernel
theorem d_M_init_110 : decode prog_10_method_1_code 110 = .ok (.putfield 50, 3) := by decide +kernel
theorem d_M_init_113 : decode prog_10_method_1_code 113 = .ok (.aload_n 0, 1) := by decide +kernel
theorem d_M_init_114 : decode prog_10_method_1_code 114 = .ok (.sipush 4800, 3) := by decide +kernel
theorem d_M_init_117 : decode prog_10_method_1_code 117 = .ok (.newarray .int, 2) := by decide +kernel
theorem d_M_init_119 : decode prog_10_method_1_code 119 = .ok (.putfield 53, 3) := by decide +kernel
theorem d_M_init_122 : decode prog_10_method_1_code 122 = .ok (.aload_n 0, 1) := by decide +kernel
theorem d_M_init_123 : decode prog_10_method_1_code 123 = .ok (.sipush 128, 3) := by decide +kernel
theorem d_M_init_126 : decode prog_10_method_1_code 126 = .ok (.newarray .int, 2) := by decide +kernel
theorem d_M_init_128 : decode prog_10_method_1_code 128 = .ok (.putfield 56, 3) := by decide +kernel
theorem d_M_init_131 : decode prog_10_method_1_code 131 = .ok (.aload_n 0, 1) := by decide +kernel
theorem d_M_init_132 : decode prog_10_method_1_code 132 = .ok (.bipush 104, 2) := by decide +kernel
theorem d_M_init_134 : decode prog_10_method_1_code 134 = .ok (.newarray .long, 2) := by decide +kernel
theorem d_M_init_136 : decode prog_10_method_1_code 136 = .ok (.putfield 59, 3) := by decide +kernel
theorem d_M_init_139 : decode prog_10_method_1_code 139 = .ok (.aload_n 0, 1) := by decide +kernel
theorem d_M_init_140 : decode prog_10_method_1_code 140 = .ok (.bipush 104, 2) := by decide +kernel
theorem d_M_init_142 : decode prog_10_method_1_code 142 = .ok (.newarray .long, 2) := by decide +kernel
theorem d_M_init_144 : decode prog_10_method_1_code 144 = .ok (.putfield 63, 3) := by decide +kernel
theorem d_M_init_147 : decode prog_10_method_1_code 147 = .ok (.aload_n 0, 1) := by decide +kernel
theorem d_M_init_148 : decode prog_10_method_1_code 148 = .ok (.sipush 6240, 3) := by decide +kernel
theorem d_M_init_151 : decode prog_10_method_1_code 151 = .ok (.newarray .int, 2) := by decide +kernel
theorem d_M_init_153 : decode prog_10_method_1_code 153 = .ok (.putfield 66, 3) := by decide +kernel
theorem d_M_init_156 : decode prog_10_method_1_code 156 = .ok (.aload_n 0, 1) := by decide +kernel
theorem d_M_init_157 : decode prog_10_method_1_code 157 = .ok (.bipush 60, 2) := by decide +kernel
theorem d_M_init_159 : decode prog_10_method_1_code 159 = .ok (.newarray .int, 2) := by decide +kernel
theorem d_M_init_161 : decode prog_10_method_1_code 161 = .ok (.putfield 69, 3) := by decide +kernel
theorem d_M_init_164 : decode prog_10_method_1_code 164 = .ok (.iconst 0, 1) := by decide +kernel
theorem d_M_init_165 : decode prog_10_method_1_code 165 = .ok (.istore_n 1, 1) := by decide +kernel
theorem d_M_init_166 : decode prog_10_method_1_code 166 = .ok (.iload_n 1, 1) := by decide +kernel
theorem d_M_init_167 : decode prog_10_method_1_code 167 = .ok (.sipush 128, 3) := by decide +kernel
theorem d_M_init_170 : decode prog_10_method_1_code 170 = .ok (.if_icmp .ge 16, 3) := by decide +kernel
theorem d_M_init_173 : decode prog_10_method_1_code 173 = .ok (.aload_n 0, 1) := by decide +kernel
theorem d_M_init_174 : decode prog_10_method_1_code 174 = .ok (.getfield 56, 3) := by decide +kernel
theorem d_M_init_177 : decode prog_10_method_1_code 177 = .ok (.iload_n 1, 1) := by decide +kernel
theorem d_M_init_178 : decode prog_10_method_1_code 178 = .ok (.iconst 1, 1) := by decide +kernel
theorem d_M_init_179 : decode prog_10_method_1_code 179 = .ok (.iastore, 1) := by decide +kernel
theorem d_M_init_180 : decode prog_10_method_1_code 180 = .ok (.iinc 1 1, 3) := by decide +kernel
theorem d_M_init_183 : decode prog_10_method_1_code 183 = .ok (.goto (-17), 3) := by decide +kernel
theorem d_M_init_186 : decode prog_10_method_1_code 186 = .ok (.return_, 1) := by decide +kernel
theorem d_M_thrown_0 : decode prog_10_method_2_code 0 = .ok (.aload_n 0, 1) := by decide +kernel
theorem d_M_thrown_1 : decode prog_10_method_2_code 1 = .ok (.getfield 72, 3) := by decide +kernel
theorem d_M_thrown_4 : decode prog_10_method_2_code 4 = .ok (.ireturn, 1) := by decide +kernel
theorem d_M_refuse_0 : decode prog_10_method_3_code 0 = .ok (.aload_n 0, 1) := by decide +kernel
theorem d_M_refuse_1 : decode prog_10_method_3_code 1 = .ok (.iload_n 1, 1) := by decide +kernel
theorem d_M_refuse_2 : decode prog_10_method_3_code 2 = .ok (.putfield 72, 3) := by decide +kernel
theorem d_M_refuse_5 : decode prog_10_method_3_code 5 = .ok (.iconst 0, 1) := by decide +kernel
theorem d_M_refuse_6 : decode prog_10_method_3_code 6 = .ok (.ireturn, 1) := by decide +kernel
theorem d_M_within_0 : decode prog_10_method_4_code 0 = .ok (.iload_n 0, 1) := by decide +kernel
theorem d_M_within_1 : decode prog_10_method_4_code 1 = .ok (.iload_n 1, 1) := by decide +kernel
theorem d_M_within_2 : decode prog_10_method_4_code 2 = .ok (.if_icmp .lt 12, 3) := by decide +kernel
theorem d_M_within_5 : decode prog_10_method_4_code 5 = .ok (.iload_n 0, 1) := by decide +kernel
theorem d_M_within_6 : decode prog_10_method_4_code 6 = .ok (.iload_n 2, 1) := by decide +kernel
theorem d_M_within_7 : decode prog_10_method_4_code 7 = .ok (.if_icmp .gt 7, 3) := by decide +kernel
theorem d_M_within_10 : decode prog_10_method_4_code 10 = .ok (.iconst 1, 1) := by decide +kernel
theorem d_M_within_11 : decode prog_10_method_4_code 11 = .ok (.goto 4, 3) := by decide +kernel
theorem d_M_within_14 : decode prog_10_method_4_code 14 = .ok (.iconst 0, 1) := by decide +kernel
theorem d_M_within_15 : decode prog_10_method_4_code 15 = .ok (.ireturn, 1) := by decide +kernel
theorem d_M_takes_0 : decode prog_10_method_5_code 0 = .ok (.iload_n 0, 1) := by decide +kernel
theorem d_M_takes_1 : decode prog_10_method_5_code 1 = .ok (.bipush 43, 2) := by decide +kernel
theorem d_M_takes_3 : decode prog_10_method_5_code 3 = .ok (.if_icmp .eq 15, 3) := by decide +kernel
theorem d_M_takes_6 : decode prog_10_method_5_code 6 = .ok (.iload_n 0, 1) := by decide +kernel
theorem d_M_takes_7 : decode prog_10_method_5_code 7 = .ok (.bipush 42, 2) := by decide +kernel
theorem d_M_takes_9 : decode prog_10_method_5_code 9 = .ok (.if_icmp .eq 9, 3) := by decide +kernel
theorem d_M_takes_12 : decode prog_10_method_5_code 12 = .ok (.iload_n 0, 1) := by decide +kernel
theorem d_M_takes_13 : decode prog_10_method_5_code 13 = .ok (.bipush 94, 2) := by decide +kernel
theorem d_M_takes_15 : decode prog_10_method_5_code 15 = .ok (.if_icmp .ne 5, 3) := by decide +kernel
theorem d_M_takes_18 : decode prog_10_method_5_code 18 = .ok (.iconst 2, 1) := by decide +kernel
theorem d_M_takes_19 : decode prog_10_method_5_code 19 = .ok (.ireturn, 1) := by decide +kernel
theorem d_M_takes_20 : decode prog_10_method_5_code 20 = .ok (.iload_n 0, 1) := by decide +kernel
theorem d_M_takes_21 : decode prog_10_method_5_code 21 = .ok (.bipush 45, 2) := by decide +kernel
theorem d_M_takes_23 : decode prog_10_method_5_code 23 = .ok (.if_icmp .eq 9, 3) := by decide +kernel
theorem d_M_takes_26 : decode prog_10_method_5_code 26 = .ok (.iload_n 0, 1) := by decide +kernel
theorem d_M_takes_27 : decode prog_10_method_5_code 27 = .ok (.bipush 33, 2) := by decide +kernel
theorem d_M_takes_29 : decode prog_10_method_5_code 29 = .ok (.if_icmp .ne 5, 3) := by decide +kernel
theorem d_M_takes_32 : decode prog_10_method_5_code 32 = .ok (.iconst 1, 1) := by decide +kernel
theorem d_M_takes_33 : decode prog_10_method_5_code 33 = .ok (.ireturn, 1) := by decide +kernel
theorem d_M_takes_34 : decode prog_10_method_5_code 34 = .ok (.iload_n 0, 1) := by decide +kernel
theorem d_M_takes_35 : decode prog_10_method_5_code 35 = .ok (.bipush 48, 2) := by decide +kernel
theorem d_M_takes_37 : decode prog_10_method_5_code 37 = .ok (.bipush 57, 2) := by decide +kernel
theorem d_M_takes_39 : decode prog_10_method_5_code 39 = .ok (.invokestatic 75, 3) := by decide +kernel
theorem d_M_takes_42 : decode prog_10_method_5_code 42 = .ok (.ifCond .ne 14, 3) := by decide +kernel
theorem d_M_takes_45 : decode prog_10_method_5_code 45 = .ok (.iload_n 0, 1) := by decide +kernel
theorem d_M_takes_46 : decode prog_10_method_5_code 46 = .ok (.bipush 120, 2) := by decide +kernel
theorem d_M_takes_48 : decode prog_10_method_5_code 48 = .ok (.bipush 122, 2) := by decide +kernel
theorem d_M_takes_50 : decode prog_10_method_5_code 50 = .ok (.invokestatic 75, 3) := by decide +kernel
theorem d_M_takes_53 : decode prog_10_method_5_code 53 = .ok (.ifCond .eq 7, 3) := by decide +kernel
theorem d_M_takes_56 : decode prog_10_method_5_code 56 = .ok (.iconst 0, 1) := by decide +kernel
theorem d_M_takes_57 : decode prog_10_method_5_code 57 = .ok (.goto 4, 3) := by decide +kernel
theorem d_M_takes_60 : decode prog_10_method_5_code 60 = .ok (.iconst (-1), 1) := by decide +kernel
theorem d_M_takes_61 : decode prog_10_method_5_code 61 = .ok (.ireturn, 1) := by decide +kernel
theorem d_M_type_0 : decode prog_10_method_6_code 0 = .ok (.aload_n 0, 1) := by decide +kernel
theorem d_M_type_1 : decode prog_10_method_6_code 1 = .ok (.iconst 0, 1) := by decide +kernel
theorem d_M_type_2 : decode prog_10_method_6_code 2 = .ok (.putfield 72, 3) := by decide +kernel
theorem d_M_type_5 : decode prog_10_method_6_code 5 = .ok (.iload_n 3, 1) := by decide +kernel
theorem d_M_type_6 : decode prog_10_method_6_code 6 = .ok (.iconst 1, 1) := by decide +kernel
theorem d_M_type_7 : decode prog_10_method_6_code 7 = .ok (.bipush 8, 2) := by decide +kernel
theorem d_M_type_9 : decode prog_10_method_6_code 9 = .ok (.invokestatic 75, 3) := by decide +kernel
theorem d_M_type_12 : decode prog_10_method_6_code 12 = .ok (.ifCond .eq 14, 3) := by decide +kernel
theorem d_M_type_15 : decode prog_10_method_6_code 15 = .ok (.aload_n 0, 1) := by decide +kernel
theorem d_M_type_16 : decode prog_10_method_6_code 16 = .ok (.getfield 79, 3) := by decide +kernel
theorem d_M_type_19 : decode prog_10_method_6_code 19 = .ok (.iload_n 3, 1) := by decide +kernel
theorem d_M_type_20 : decode prog_10_method_6_code 20 = .ok (.iadd, 1) := by decide +kernel
theorem d_M_type_21 : decode prog_10_method_6_code 21 = .ok (.bipush 60, 2) := by decide +kernel
theorem d_M_type_23 : decode prog_10_method_6_code 23 = .ok (.if_icmp .le 5, 3) := by decide +kernel
theorem d_M_type_26 : decode prog_10_method_6_code 26 = .ok (.iconst (-1), 1) := by decide +kernel
theorem d_M_type_27 : decode prog_10_method_6_code 27 = .ok (.ireturn, 1) := by decide +kernel
theorem d_M_type_28 : decode prog_10_method_6_code 28 = .ok (.iconst 0, 1) := by decide +kernel
theorem d_M_type_29 : decode prog_10_method_6_code 29 = .ok (.istore 4, 2) := by decide +kernel
theorem d_M_type_31 : decode prog_10_method_6_code 31 = .ok (.iload 4, 2) := by decide +kernel
theorem d_M_type_33 : decode prog_10_method_6_code 33 = .ok (.iload_n 3, 1) := by decide +kernel
theorem d_M_type_34 : decode prog_10_method_6_code 34 = .ok (.if_icmp .ge 42, 3) := by decide +kernel
theorem d_M_type_37 : decode prog_10_method_6_code 37 = .ok (.lload_n 1, 1) := by decide +kernel
theorem d_M_type_38 : decode prog_10_method_6_code 38 = .ok (.bipush 8, 2) := by decide +kernel
theorem d_M_type_40 : decode prog_10_method_6_code 40 = .ok (.iload 4, 2) := by decide +kernel
theorem d_M_type_42 : decode prog_10_method_6_code 42 = .ok (.imul, 1) := by decide +kernel
theorem d_M_type_43 : decode prog_10_method_6_code 43 = .ok (.lshr, 1) := by decide +kernel
theorem d_M_type_44 : decode prog_10_method_6_code 44 = .ok (.ldc2_w 82, 3) := by decide +kernel
theorem d_M_type_47 : decode prog_10_method_6_code 47 = .ok (.land, 1) := by decide +kernel
theorem d_M_type_48 : decode prog_10_method_6_code 48 = .ok (.lstore 5, 2) := by decide +kernel
theorem d_M_type_50 : decode prog_10_method_6_code 50 = .ok (.lload 5, 2) := by decide +kernel
theorem d_M_type_52 : decode prog_10_method_6_code 52 = .ok (.ldc2_w 84, 3) := by decide +kernel
theorem d_M_type_55 : decode prog_10_method_6_code 55 = .ok (.lcmp, 1) := by decide +kernel
theorem d_M_type_56 : decode prog_10_method_6_code 56 = .ok (.ifCond .lt 12, 3) := by decide +kernel
theorem d_M_type_59 : decode prog_10_method_6_code 59 = .ok (.lload 5, 2) := by decide +kernel
theorem d_M_type_61 : decode prog_10_method_6_code 61 = .ok (.ldc2_w 86, 3) := by decide +kernel
theorem d_M_type_64 : decode prog_10_method_6_code 64 = .ok (.lcmp, 1) := by decide +kernel
theorem d_M_type_65 : decode prog_10_method_6_code 65 = .ok (.ifCond .le 5, 3) := by decide +kernel
theorem d_M_type_68 : decode prog_10_method_6_code 68 = .ok (.iconst (-1), 1) := by decide +kernel
theorem d_M_type_69 : decode prog_10_method_6_code 69 = .ok (.ireturn, 1) := by decide +kernel
theorem d_M_type_70 : decode prog_10_method_6_code 70 = .ok (.iinc 4 1, 3) := by decide +kernel
theorem d_M_type_73 : decode prog_10_method_6_code 73 = .ok (.goto (-42), 3) := by decide +kernel
theorem d_M_type_76 : decode prog_10_method_6_code 76 = .ok (.iload_n 3, 1) := by decide +kernel
theorem d_M_type_77 : decode prog_10_method_6_code 77 = .ok (.iconst 1, 1) := by decide +kernel
theorem d_M_type_78 : decode prog_10_method_6_code 78 = .ok (.isub, 1) := by decide +kernel
theorem d_M_type_79 : decode prog_10_method_6_code 79 = .ok (.istore 4, 2) := by decide +kernel
theorem d_M_type_81 : decode prog_10_method_6_code 81 = .ok (.iload 4, 2) := by decide +kernel
theorem d_M_type_83 : decode prog_10_method_6_code 83 = .ok (.ifCond .lt 40, 3) := by decide +kernel
theorem d_M_type_86 : decode prog_10_method_6_code 86 = .ok (.aload_n 0, 1) := by decide +kernel
theorem d_M_type_87 : decode prog_10_method_6_code 87 = .ok (.getfield 7, 3) := by decide +kernel
theorem d_M_type_90 : decode prog_10_method_6_code 90 = .ok (.aload_n 0, 1) := by decide +kernel
theorem d_M_type_91 : decode prog_10_method_6_code 91 = .ok (.getfield 79, 3) := by decide +kernel
theorem d_M_type_94 : decode prog_10_method_6_code 94 = .ok (.lload_n 1, 1) := by decide +kernel
theorem d_M_type_95 : decode prog_10_method_6_code 95 = .ok (.bipush 8, 2) := by decide +kernel
theorem d_M_type_97 : decode prog_10_method_6_code 97 = .ok (.iload 4, 2) := by decide +kernel
theorem d_M_type_99 : decode prog_10_method_6_code 99 = .ok (.imul, 1) := by decide +kernel
theorem d_M_type_100 : decode prog_10_method_6_code 100 = .ok (.lshr, 1) := by decide +kernel
theorem d_M_type_101 : decode prog_10_method_6_code 101 = .ok (.ldc2_w 82, 3) := by decide +kernel
theorem d_M_type_104 : decode prog_10_method_6_code 104 = .ok (.land, 1) := by decide +kernel
theorem d_M_type_105 : decode prog_10_method_6_code 105 = .ok (.l2i, 1) := by decide +kernel
theorem d_M_type_106 : decode prog_10_method_6_code 106 = .ok (.iastore, 1) := by decide +kernel
theorem d_M_type_107 : decode prog_10_method_6_code 107 = .ok (.aload_n 0, 1) := by decide +kernel
theorem d_M_type_108 : decode prog_10_method_6_code 108 = .ok (.dup, 1) := by decide +kernel
theorem d_M_type_109 : decode prog_10_method_6_code 109 = .ok (.getfield 79, 3) := by decide +kernel
theorem d_M_type_112 : decode prog_10_method_6_code 112 = .ok (.iconst 1, 1) := by decide +kernel
theorem d_M_type_113 : decode prog_10_method_6_code 113 = .ok (.iadd, 1) := by decide +kernel
theorem d_M_type_114 : decode prog_10_method_6_code 114 = .ok (.putfield 79, 3) := by decide +kernel
theorem d_M_type_117 : decode prog_10_method_6_code 117 = .ok (.iinc 4 (-1), 3) := by decide +kernel
theorem d_M_type_120 : decode prog_10_method_6_code 120 = .ok (.goto (-39), 3) := by decide +kernel
theorem d_M_type_123 : decode prog_10_method_6_code 123 = .ok (.aload_n 0, 1) := by decide +kernel
theorem d_M_type_124 : decode prog_10_method_6_code 124 = .ok (.getfield 79, 3) := by decide +kernel
theorem d_M_type_127 : decode prog_10_method_6_code 127 = .ok (.ireturn, 1) := by decide +kernel
theorem d_M_wipe_0 : decode prog_10_method_7_code 0 = .ok (.aload_n 0, 1) := by decide +kernel
theorem d_M_wipe_1 : decode prog_10_method_7_code 1 = .ok (.iconst 0, 1) := by decide +kernel
theorem d_M_wipe_2 : decode prog_10_method_7_code 2 = .ok (.putfield 72, 3) := by decide +kernel
theorem d_M_wipe_5 : decode prog_10_method_7_code 5 = .ok (.aload_n 0, 1) := by decide +kernel
theorem d_M_wipe_6 : decode prog_10_method_7_code 6 = .ok (.getfield 79, 3) := by decide +kernel
theorem d_M_wipe_9 : decode prog_10_method_7_code 9 = .ok (.istore_n 1, 1) := by decide +kernel
theorem d_M_wipe_10 : decode prog_10_method_7_code 10 = .ok (.aload_n 0, 1) := by decide +kernel
theorem d_M_wipe_11 : decode prog_10_method_7_code 11 = .ok (.iconst 0, 1) := by decide +kernel
theorem d_M_wipe_12 : decode prog_10_method_7_code 12 = .ok (.putfield 79, 3) := by decide +kernel
theorem d_M_wipe_15 : decode prog_10_method_7_code 15 = .ok (.iload_n 1, 1) := by decide +kernel
theorem d_M_wipe_16 : decode prog_10_method_7_code 16 = .ok (.ireturn, 1) := by decide +kernel
theorem d_M_character_0 : decode prog_10_method_8_code 0 = .ok (.aload_n 0, 1) := by decide +kernel
theorem d_M_character_1 : decode prog_10_method_8_code 1 = .ok (.iconst 0, 1) := by decide +kernel
theorem d_M_character_2 : decode prog_10_method_8_code 2 = .ok (.putfield 72, 3) := by decide +kernel
theorem d_M_character_5 : decode prog_10_method_8_code 5 = .ok (.iload_n 1, 1) := by decide +kernel
theorem d_M_character_6 : decode prog_10_method_8_code 6 = .ok (.iconst 0, 1) := by decide +kernel
theorem d_M_character_7 : decode prog_10_method_8_code 7 = .ok (.aload_n 0, 1) := by decide +kernel
theorem d_M_character_8 : decode prog_10_method_8_code 8 = .ok (.getfield 79, 3) := by decide +kernel
theorem d_M_character_11 : decode prog_10_method_8_code 11 = .ok (.iconst 1, 1) := by decide +kernel
theorem d_M_character_12 : decode prog_10_method_8_code 12 = .ok (.isub, 1) := by decide +kernel
theorem d_M_character_13 : decode prog_10_method_8_code 13 = .ok (.invokestatic 75, 3) := by decide +kernel
theorem d_M_character_16 : decode prog_10_method_8_code 16 = .ok (.ifCond .eq 12, 3) := by decide +kernel
theorem d_M_character_19 : decode prog_10_method_8_code 19 = .ok (.aload_n 0, 1) := by decide +kernel
theorem d_M_character_20 : decode prog_10_method_8_code 20 = .ok (.getfield 7, 3) := by decide +kernel
theorem d_M_character_23 : decode prog_10_method_8_code 23 = .ok (.iload_n 1, 1) := by decide +kernel
theorem d_M_character_24 : decode prog_10_method_8_code 24 = .ok (.iaload, 1) := by decide +kernel
theorem d_M_character_25 : decode prog_10_method_8_code 25 = .ok (.goto 4, 3) := by decide +kernel
theorem d_M_character_28 : decode prog_10_method_8_code 28 = .ok (.iconst (-1), 1) := by decide +kernel
theorem d_M_character_29 : decode prog_10_method_8_code 29 = .ok (.ireturn, 1) := by decide +kernel
theorem d_M_place_0 : decode prog_10_method_9_code 0 = .ok (.aload_n 0, 1) := by decide +kernel
theorem d_M_place_1 : decode prog_10_method_9_code 1 = .ok (.iconst 0, 1) := by decide +kernel
theorem d_M_place_2 : decode prog_10_method_9_code 2 = .ok (.putfield 72, 3) := by decide +kernel
theorem d_M_place_5 : decode prog_10_method_9_code 5 = .ok (.aload_n 0, 1) := by decide +kernel
theorem d_M_place_6 : decode prog_10_method_9_code 6 = .ok (.getfield 13, 3) := by decide +kernel
theorem d_M_place_9 : decode prog_10_method_9_code 9 = .ok (.ireturn, 1) := by decide +kernel
theorem d_M_fail_0 : decode prog_10_method_10_code 0 = .ok (.aload_n 0, 1) := by decide +kernel
theorem d_M_fail_1 : decode prog_10_method_10_code 1 = .ok (.aload_n 0, 1) := by decide +kernel
theorem d_M_fail_2 : decode prog_10_method_10_code 2 = .ok (.getfield 88, 3) := by decide +kernel
theorem d_M_fail_5 : decode prog_10_method_10_code 5 = .ok (.putfield 13, 3) := by decide +kernel
theorem d_M_fail_8 : decode prog_10_method_10_code 8 = .ok (.iconst 0, 1) := by decide +kernel
theorem d_M_fail_9 : decode prog_10_method_10_code 9 = .ok (.ireturn, 1) := by decide +kernel
theorem d_M_readSide_0 : decode prog_10_method_11_code 0 = .ok (.aload_n 0, 1) := by decide +kernel
theorem d_M_readSide_1 : decode prog_10_method_11_code 1 = .ok (.aload_n 0, 1) := by decide +kernel
theorem d_M_readSide_2 : decode prog_10_method_11_code 2 = .ok (.getfield 88, 3) := by decide +kernel
theorem d_M_readSide_5 : decode prog_10_method_11_code 5 = .ok (.iload_n 1, 1) := by decide +kernel
theorem d_M_readSide_6 : decode prog_10_method_11_code 6 = .ok (.iadd, 1) := by decide +kernel
theorem d_M_readSide_7 : decode prog_10_method_11_code 7 = .ok (.aload_n 0, 1) := by decide +kernel
theorem d_M_readSide_8 : decode prog_10_method_11_code 8 = .ok (.getfield 79, 3) := by decide +kernel
theorem d_M_readSide_11 : decode prog_10_method_11_code 11 = .ok (.if_icmp .ge 12, 3) := by decide +kernel
theorem d_M_readSide_14 : decode prog_10_method_11_code 14 = .ok (.aload_n 0, 1) := by decide +kernel
theorem d_M_readSide_15 : decode prog_10_method_11_code 15 = .ok (.getfield 88, 3) := by decide +kernel
theorem d_M_readSide_18 : decode prog_10_method_11_code 18 = .ok (.iload_n 1, 1) := by decide +kernel
theorem d_M_readSide_19 : decode prog_10_method_11_code 19 = .ok (.iadd, 1) := by decide +kernel
theorem d_M_readSide_20 : decode prog_10_method_11_code 20 = .ok (.goto 7, 3) := by decide +kernel
theorem d_M_readSide_23 : decode prog_10_method_11_code 23 = .ok (.aload_n 0, 1) := by decide +kernel
theorem d_M_readSide_24 : decode prog_10_method_11_code 24 = .ok (.getfield 79, 3) := by decide +kernel
theorem d_M_readSide_27 : decode prog_10_method_11_code 27 = .ok (.putfield 91, 3) := by decide +kernel
theorem d_M_readSide_30 : decode prog_10_method_11_code 30 = .ok (.iconst 1, 1) := by decide +kernel
theorem d_M_readSide_31 : decode prog_10_method_11_code 31 = .ok (.istore_n 3, 1) := by decide +kernel
theorem d_M_readSide_32 : decode prog_10_method_11_code 32 = .ok (.iload_n 3, 1) := by decide +kernel
theorem d_M_readSide_33 : decode prog_10_method_11_code 33 = .ok (.ifCond .le 143, 3) := by decide +kernel
theorem d_M_readSide_36 : decode prog_10_method_11_code 36 = .ok (.aload_n 0, 1) := by decide +kernel
theorem d_M_readSide_37 : decode prog_10_method_11_code 37 = .ok (.getfield 88, 3) := by decide +kernel
theorem d_M_readSide_40 : decode prog_10_method_11_code 40 = .ok (.aload_n 0, 1) := by decide +kernel
theorem d_M_readSide_41 : decode prog_10_method_11_code 41 = .ok (.getfield 91, 3) := by decide +kernel
theorem d_M_readSide_44 : decode prog_10_method_11_code 44 = .ok (.if_icmp .lt 8, 3) := by decide +kernel
theorem d_M_readSide_47 : decode prog_10_method_11_code 47 = .ok (.aload_n 0, 1) := by decide +kernel
theorem d_M_readSide_48 : decode prog_10_method_11_code 48 = .ok (.invokevirtual 94, 3) := by decide +kernel
theorem d_M_readSide_51 : decode prog_10_method_11_code 51 = .ok (.ireturn, 1) := by decide +kernel
theorem d_M_readSide_52 : decode prog_10_method_11_code 52 = .ok (.aload_n 0, 1) := by decide +kernel
theorem d_M_readSide_53 : decode prog_10_method_11_code 53 = .ok (.getfield 7, 3) := by decide +kernel
theorem d_M_readSide_56 : decode prog_10_method_11_code 56 = .ok (.aload_n 0, 1) := by decide +kernel
theorem d_M_readSide_57 : decode prog_10_method_11_code 57 = .ok (.getfield 88, 3) := by decide +kernel
theorem d_M_readSide_60 : decode prog_10_method_11_code 60 = .ok (.iaload, 1) := by decide +kernel
theorem d_M_readSide_61 : decode prog_10_method_11_code 61 = .ok (.istore 4, 2) := by decide +kernel
theorem d_M_readSide_63 : decode prog_10_method_11_code 63 = .ok (.iload 4, 2) := by decide +kernel
theorem d_M_readSide_65 : decode prog_10_method_11_code 65 = .ok (.bipush 97, 2) := by decide +kernel
theorem d_M_readSide_67 : decode prog_10_method_11_code 67 = .ok (.bipush 99, 2) := by decide +kernel
theorem d_M_readSide_69 : decode prog_10_method_11_code 69 = .ok (.invokestatic 75, 3) := by decide +kernel
theorem d_M_readSide_72 : decode prog_10_method_11_code 72 = .ok (.ifCond .eq 20, 3) := by decide +kernel
theorem d_M_readSide_75 : decode prog_10_method_11_code 75 = .ok (.iload_n 2, 1) := by decide +kernel
theorem d_M_readSide_76 : decode prog_10_method_11_code 76 = .ok (.iload 4, 2) := by decide +kernel
theorem d_M_readSide_78 : decode prog_10_method_11_code 78 = .ok (.bipush 97, 2) := by decide +kernel
theorem d_M_readSide_80 : decode prog_10_method_11_code 80 = .ok (.isub, 1) := by decide +kernel
theorem d_M_readSide_81 : decode prog_10_method_11_code 81 = .ok (.ishr, 1) := by decide +kernel
theorem d_M_readSide_82 : decode prog_10_method_11_code 82 = .ok (.iconst 1, 1) := by decide +kernel
theorem d_M_readSide_83 : decode prog_10_method_11_code 83 = .ok (.iand, 1) := by decide +kernel
theorem d_M_readSide_84 : decode prog_10_method_11_code 84 = .ok (.iconst 1, 1) := by decide +kernel
theorem d_M_readSide_85 : decode prog_10_method_11_code 85 = .ok (.if_icmp .ne 7, 3) := by decide +kernel
theorem d_M_readSide_88 : decode prog_10_method_11_code 88 = .ok (.iconst 1, 1) := by decide +kernel
theorem d_M_readSide_89 : decode prog_10_method_11_code 89 = .ok (.goto 4, 3) := by decide +kernel
theorem d_M_readSide_92 : decode prog_10_method_11_code 92 = .ok (.iconst 0, 1) := by decide +kernel
theorem d_M_readSide_93 : decode prog_10_method_11_code 93 = .ok (.istore 5, 2) := by decide +kernel
theorem d_M_readSide_95 : decode prog_10_method_11_code 95 = .ok (.iload 5, 2) := by decide +kernel
theorem d_M_readSide_97 : decode prog_10_method_11_code 97 = .ok (.ifCond .ne 17, 3) := by decide +kernel
theorem d_M_readSide_100 : decode prog_10_method_11_code 100 = .ok (.iload 4, 2) := by decide +kernel
theorem d_M_readSide_102 : decode prog_10_method_11_code 102 = .ok (.invokestatic 98, 3) := by decide +kernel
theorem d_M_readSide_105 : decode prog_10_method_11_code 105 = .ok (.iconst (-1), 1) := by decide +kernel
theorem d_M_readSide_106 : decode prog_10_method_11_code 106 = .ok (.if_icmp .ne 8, 3) := by decide +kernel
theorem d_M_readSide_109 : decode prog_10_method_11_code 109 = .ok (.aload_n 0, 1) := by decide +kernel
theorem d_M_readSide_110 : decode prog_10_method_11_code 110 = .ok (.invokevirtual 94, 3) := by decide +kernel
theorem d_M_readSide_113 : decode prog_10_method_11_code 113 = .ok (.ireturn, 1) := by decide +kernel
theorem d_M_readSide_114 : decode prog_10_method_11_code 114 = .ok (.aload_n 0, 1) := by decide +kernel
theorem d_M_readSide_115 : decode prog_10_method_11_code 115 = .ok (.iload 5, 2) := by decide +kernel
theorem d_M_readSide_117 : decode prog_10_method_11_code 117 = .ok (.ifCond .eq 18, 3) := by decide +kernel
theorem d_M_readSide_120 : decode prog_10_method_11_code 120 = .ok (.aload_n 0, 1) := by decide +kernel
theorem d_M_readSide_121 : decode prog_10_method_11_code 121 = .ok (.getfield 102, 3) := by decide +kernel
theorem d_M_readSide_124 : decode prog_10_method_11_code 124 = .ok (.iconst 1, 1) := by decide +kernel
theorem d_M_readSide_125 : decode prog_10_method_11_code 125 = .ok (.iload 4, 2) := by decide +kernel
theorem d_M_readSide_127 : decode prog_10_method_11_code 127 = .ok (.bipush 97, 2) := by decide +kernel
theorem d_M_readSide_129 : decode prog_10_method_11_code 129 = .ok (.isub, 1) := by decide +kernel
theorem d_M_readSide_130 : decode prog_10_method_11_code 130 = .ok (.ishl, 1) := by decide +kernel
theorem d_M_readSide_131 : decode prog_10_method_11_code 131 = .ok (.ior, 1) := by decide +kernel
theorem d_M_readSide_132 : decode prog_10_method_11_code 132 = .ok (.goto 7, 3) := by decide +kernel
theorem d_M_readSide_135 : decode prog_10_method_11_code 135 = .ok (.aload_n 0, 1) := by decide +kernel
theorem d_M_readSide_136 : decode prog_10_method_11_code 136 = .ok (.getfield 102, 3) := by decide +kernel
theorem d_M_readSide_139 : decode prog_10_method_11_code 139 = .ok (.putfield 102, 3) := by decide +kernel
theorem d_M_readSide_142 : decode prog_10_method_11_code 142 = .ok (.iload 5, 2) := by decide +kernel
theorem d_M_readSide_144 : decode prog_10_method_11_code 144 = .ok (.ifCond .eq 9, 3) := by decide +kernel
theorem d_M_readSide_147 : decode prog_10_method_11_code 147 = .ok (.iload_n 3, 1) := by decide +kernel
theorem d_M_readSide_148 : decode prog_10_method_11_code 148 = .ok (.iconst 1, 1) := by decide +kernel
theorem d_M_readSide_149 : decode prog_10_method_11_code 149 = .ok (.isub, 1) := by decide +kernel
theorem d_M_readSide_150 : decode prog_10_method_11_code 150 = .ok (.goto 12, 3) := by decide +kernel
theorem d_M_readSide_153 : decode prog_10_method_11_code 153 = .ok (.iload_n 3, 1) := by decide +kernel
theorem d_M_readSide_154 : decode prog_10_method_11_code 154 = .ok (.iconst 1, 1) := by decide +kernel
theorem d_M_readSide_155 : decode prog_10_method_11_code 155 = .ok (.isub, 1) := by decide +kernel
theorem d_M_readSide_156 : decode prog_10_method_11_code 156 = .ok (.iload 4, 2) := by decide +kernel
theorem d_M_readSide_158 : decode prog_10_method_11_code 158 = .ok (.invokestatic 98, 3) := by decide +kernel
theorem d_M_readSide_161 : decode prog_10_method_11_code 161 = .ok (.iadd, 1) := by decide +kernel
theorem d_M_readSide_162 : decode prog_10_method_11_code 162 = .ok (.istore_n 3, 1) := by decide +kernel
theorem d_M_readSide_163 : decode prog_10_method_11_code 163 = .ok (.aload_n 0, 1) := by decide +kernel
theorem d_M_readSide_164 : decode prog_10_method_11_code 164 = .ok (.dup, 1) := by decide +kernel
theorem d_M_readSide_165 : decode prog_10_method_11_code 165 = .ok (.getfield 88, 3) := by decide +kernel
theorem d_M_readSide_168 : decode prog_10_method_11_code 168 = .ok (.iconst 1, 1) := by decide +kernel
theorem d_M_readSide_169 : decode prog_10_method_11_code 169 = .ok (.iadd, 1) := by decide +kernel
theorem d_M_readSide_170 : decode prog_10_method_11_code 170 = .ok (.putfield 88, 3) := by decide +kernel
theorem d_M_readSide_173 : decode prog_10_method_11_code 173 = .ok (.goto (-141), 3) := by decide +kernel
theorem d_M_readSide_176 : decode prog_10_method_11_code 176 = .ok (.iconst 1, 1) := by decide +kernel
theorem d_M_readSide_177 : decode prog_10_method_11_code 177 = .ok (.ireturn, 1) := by decide +kernel
theorem d_M_readTerm_0 : decode prog_10_method_12_code 0 = .ok (.aload_n 0, 1) := by decide +kernel
theorem d_M_readTerm_1 : decode prog_10_method_12_code 1 = .ok (.iconst 0, 1) := by decide +kernel
theorem d_M_readTerm_2 : decode prog_10_method_12_code 2 = .ok (.putfield 88, 3) := by decide +kernel
theorem d_M_readTerm_5 : decode prog_10_method_12_code 5 = .ok (.aload_n 0, 1) := by decide +kernel
theorem d_M_readTerm_6 : decode prog_10_method_12_code 6 = .ok (.bipush 60, 2) := by decide +kernel
theorem d_M_readTerm_8 : decode prog_10_method_12_code 8 = .ok (.iconst 0, 1) := by decide +kernel
theorem d_M_readTerm_9 : decode prog_10_method_12_code 9 = .ok (.invokevirtual 105, 3) := by decide +kernel
theorem d_M_readTerm_12 : decode prog_10_method_12_code 12 = .ok (.ifCond .eq 25, 3) := by decide +kernel
theorem d_M_readTerm_15 : decode prog_10_method_12_code 15 = .ok (.aload_n 0, 1) := by decide +kernel
theorem d_M_readTerm_16 : decode prog_10_method_12_code 16 = .ok (.getfield 88, 3) := by decide +kernel
theorem d_M_readTerm_19 : decode prog_10_method_12_code 19 = .ok (.aload_n 0, 1) := by decide +kernel
theorem d_M_readTerm_20 : decode prog_10_method_12_code 20 = .ok (.getfield 79, 3) := by decide +kernel
theorem d_M_readTerm_23 : decode prog_10_method_12_code 23 = .ok (.if_icmp .eq 10, 3) := by decide +kernel
theorem d_M_readTerm_26 : decode prog_10_method_12_code 26 = .ok (.aload_n 0, 1) := by decide +kernel
theorem d_M_readTerm_27 : decode prog_10_method_12_code 27 = .ok (.invokevirtual 94, 3) := by decide +kernel
theorem d_M_readTerm_30 : decode prog_10_method_12_code 30 = .ok (.ifCond .eq 7, 3) := by decide +kernel
theorem d_M_readTerm_33 : decode prog_10_method_12_code 33 = .ok (.iconst 1, 1) := by decide +kernel
theorem d_M_readTerm_34 : decode prog_10_method_12_code 34 = .ok (.goto 4, 3) := by decide +kernel
theorem d_M_readTerm_37 : decode prog_10_method_12_code 37 = .ok (.iconst 0, 1) := by decide +kernel
theorem d_M_readTerm_38 : decode prog_10_method_12_code 38 = .ok (.ireturn, 1) := by decide +kernel
theorem d_M_readBoth_0 : decode prog_10_method_13_code 0 = .ok (.aload_n 0, 1) := by decide +kernel
theorem d_M_readBoth_1 : decode prog_10_method_13_code 1 = .ok (.iconst 0, 1) := by decide +kernel
theorem d_M_readBoth_2 : decode prog_10_method_13_code 2 = .ok (.putfield 88, 3) := by decide +kernel
theorem d_M_readBoth_5 : decode prog_10_method_13_code 5 = .ok (.aload_n 0, 1) := by decide +kernel
theorem d_M_readBoth_6 : decode prog_10_method_13_code 6 = .ok (.iconst 0, 1) := by decide +kernel
theorem d_M_readBoth_7 : decode prog_10_method_13_code 7 = .ok (.putfield 102, 3) := by decide +kernel
theorem d_M_readBoth_10 : decode prog_10_method_13_code 10 = .ok (.aload_n 0, 1) := by decide +kernel
theorem d_M_readBoth_11 : decode prog_10_method_13_code 11 = .ok (.iload_n 1, 1) := by decide +kernel
theorem d_M_readBoth_12 : decode prog_10_method_13_code 12 = .ok (.iload_n 2, 1) := by decide +kernel
theorem d_M_readBoth_13 : decode prog_10_method_13_code 13 = .ok (.ifCond .eq 8, 3) := by decide +kernel
theorem d_M_readBoth_16 : decode prog_10_method_13_code 16 = .ok (.bipush 7, 2) := by decide +kernel
theorem d_M_readBoth_18 : decode prog_10_method_13_code 18 = .ok (.goto 4, 3) := by decide +kernel
theorem d_M_readBoth_21 : decode prog_10_method_13_code 21 = .ok (.iconst 0, 1) := by decide +kernel
theorem d_M_readBoth_22 : decode prog_10_method_13_code 22 = .ok (.invokevirtual 105, 3) := by decide +kernel
theorem d_M_readBoth_25 : decode prog_10_method_13_code 25 = .ok (.ifCond .ne 5, 3) := by decide +kernel
theorem d_M_readBoth_28 : decode prog_10_method_13_code 28 = .ok (.iconst (-1), 1) := by decide +kernel
theorem d_M_readBoth_29 : decode prog_10_method_13_code 29 = .ok (.ireturn, 1) := by decide +kernel
theorem d_M_readBoth_30 : decode prog_10_method_13_code 30 = .ok (.aload_n 0, 1) := by decide +kernel
theorem d_M_readBoth_31 : decode prog_10_method_13_code 31 = .ok (.getfield 88, 3) := by decide +kernel
theorem d_M_readBoth_34 : decode prog_10_method_13_code 34 = .ok (.aload_n 0, 1) := by decide +kernel
theorem d_M_readBoth_35 : decode prog_10_method_13_code 35 = .ok (.getfield 79, 3) := by decide +kernel
theorem d_M_readBoth_38 : decode prog_10_method_13_code 38 = .ok (.if_icmp .eq 17, 3) := by decide +kernel
theorem d_M_readBoth_41 : decode prog_10_method_13_code 41 = .ok (.aload_n 0, 1) := by decide +kernel
theorem d_M_readBoth_42 : decode prog_10_method_13_code 42 = .ok (.getfield 7, 3) := by decide +kernel
theorem d_M_readBoth_45 : decode prog_10_method_13_code 45 = .ok (.aload_n 0, 1) := by decide +kernel
theorem d_M_readBoth_46 : decode prog_10_method_13_code 46 = .ok (.getfield 88, 3) := by decide +kernel
theorem d_M_readBoth_49 : decode prog_10_method_13_code 49 = .ok (.iaload, 1) := by decide +kernel
theorem d_M_readBoth_50 : decode prog_10_method_13_code 50 = .ok (.bipush 61, 2) := by decide +kernel
theorem d_M_readBoth_52 : decode prog_10_method_13_code 52 = .ok (.if_icmp .eq 13, 3) := by decide +kernel
theorem d_M_readBoth_55 : decode prog_10_method_13_code 55 = .ok (.aload_n 0, 1) := by decide +kernel
theorem d_M_readBoth_56 : decode prog_10_method_13_code 56 = .ok (.aload_n 0, 1) := by decide +kernel
theorem d_M_readBoth_57 : decode prog_10_method_13_code 57 = .ok (.getfield 88, 3) := by decide +kernel
theorem d_M_readBoth_60 : decode prog_10_method_13_code 60 = .ok (.putfield 13, 3) := by decide +kernel
theorem d_M_readBoth_63 : decode prog_10_method_13_code 63 = .ok (.iconst (-1), 1) := by decide +kernel
theorem d_M_readBoth_64 : decode prog_10_method_13_code 64 = .ok (.ireturn, 1) := by decide +kernel
theorem d_M_readBoth_65 : decode prog_10_method_13_code 65 = .ok (.aload_n 0, 1) := by decide +kernel
theorem d_M_readBoth_66 : decode prog_10_method_13_code 66 = .ok (.dup, 1) := by decide +kernel
theorem d_M_readBoth_67 : decode prog_10_method_13_code 67 = .ok (.getfield 88, 3) := by decide +kernel
theorem d_M_readBoth_70 : decode prog_10_method_13_code 70 = .ok (.iconst 1, 1) := by decide +kernel
theorem d_M_readBoth_71 : decode prog_10_method_13_code 71 = .ok (.iadd, 1) := by decide +kernel
theorem d_M_readBoth_72 : decode prog_10_method_13_code 72 = .ok (.putfield 88, 3) := by decide +kernel
theorem d_M_readBoth_75 : decode prog_10_method_13_code 75 = .ok (.aload_n 0, 1) := by decide +kernel
theorem d_M_readBoth_76 : decode prog_10_method_13_code 76 = .ok (.getfield 88, 3) := by decide +kernel
theorem d_M_readBoth_79 : decode prog_10_method_13_code 79 = .ok (.istore_n 3, 1) := by decide +kernel
theorem d_M_readBoth_80 : decode prog_10_method_13_code 80 = .ok (.aload_n 0, 1) := by decide +kernel
theorem d_M_readBoth_81 : decode prog_10_method_13_code 81 = .ok (.iload_n 1, 1) := by decide +kernel
theorem d_M_readBoth_82 : decode prog_10_method_13_code 82 = .ok (.iload_n 2, 1) := by decide +kernel
theorem d_M_readBoth_83 : decode prog_10_method_13_code 83 = .ok (.ifCond .eq 10, 3) := by decide +kernel
theorem d_M_readBoth_86 : decode prog_10_method_13_code 86 = .ok (.aload_n 0, 1) := by decide +kernel
theorem d_M_readBoth_87 : decode prog_10_method_13_code 87 = .ok (.getfield 102, 3) := by decide +kernel
theorem d_M_readBoth_90 : decode prog_10_method_13_code 90 = .ok (.goto 4, 3) := by decide +kernel
theorem d_M_readBoth_93 : decode prog_10_method_13_code 93 = .ok (.iconst 0, 1) := by decide +kernel
theorem d_M_readBoth_94 : decode prog_10_method_13_code 94 = .ok (.invokevirtual 105, 3) := by decide +kernel
theorem d_M_readBoth_97 : decode prog_10_method_13_code 97 = .ok (.ifCond .eq 25, 3) := by decide +kernel
theorem d_M_readBoth_100 : decode prog_10_method_13_code 100 = .ok (.aload_n 0, 1) := by decide +kernel
theorem d_M_readBoth_101 : decode prog_10_method_13_code 101 = .ok (.getfield 88, 3) := by decide +kernel
theorem d_M_readBoth_104 : decode prog_10_method_13_code 104 = .ok (.aload_n 0, 1) := by decide +kernel
theorem d_M_readBoth_105 : decode prog_10_method_13_code 105 = .ok (.getfield 79, 3) := by decide +kernel
theorem d_M_readBoth_108 : decode prog_10_method_13_code 108 = .ok (.if_icmp .eq 10, 3) := by decide +kernel
theorem d_M_readBoth_111 : decode prog_10_method_13_code 111 = .ok (.aload_n 0, 1) := by decide +kernel
theorem d_M_readBoth_112 : decode prog_10_method_13_code 112 = .ok (.invokevirtual 94, 3) := by decide +kernel
theorem d_M_readBoth_115 : decode prog_10_method_13_code 115 = .ok (.ifCond .eq 7, 3) := by decide +kernel
theorem d_M_readBoth_118 : decode prog_10_method_13_code 118 = .ok (.iload_n 3, 1) := by decide +kernel
theorem d_M_readBoth_119 : decode prog_10_method_13_code 119 = .ok (.goto 4, 3) := by decide +kernel
theorem d_M_readBoth_122 : decode prog_10_method_13_code 122 = .ok (.iconst (-1), 1) := by decide +kernel
theorem d_M_readBoth_123 : decode prog_10_method_13_code 123 = .ok (.ireturn, 1) := by decide +kernel
theorem d_M_rule_0 : decode prog_10_method_14_code 0 = .ok (.aload_n 0, 1) := by decide +kernel
theorem d_M_rule_1 : decode prog_10_method_14_code 1 = .ok (.iconst 0, 1) := by decide +kernel
theorem d_M_rule_2 : decode prog_10_method_14_code 2 = .ok (.putfield 72, 3) := by decide +kernel
theorem d_M_rule_5 : decode prog_10_method_14_code 5 = .ok (.aload_n 0, 1) := by decide +kernel
theorem d_M_rule_6 : decode prog_10_method_14_code 6 = .ok (.bipush 7, 2) := by decide +kernel
theorem d_M_rule_8 : decode prog_10_method_14_code 8 = .ok (.iconst 1, 1) := by decide +kernel
theorem d_M_rule_9 : decode prog_10_method_14_code 9 = .ok (.invokevirtual 109, 3) := by decide +kernel
theorem d_M_rule_12 : decode prog_10_method_14_code 12 = .ok (.istore_n 1, 1) := by decide +kernel
theorem d_M_rule_13 : decode prog_10_method_14_code 13 = .ok (.iload_n 1, 1) := by decide +kernel
theorem d_M_rule_14 : decode prog_10_method_14_code 14 = .ok (.ifCond .lt 12, 3) := by decide +kernel
theorem d_M_rule_17 : decode prog_10_method_14_code 17 = .ok (.aload_n 0, 1) := by decide +kernel
theorem d_M_rule_18 : decode prog_10_method_14_code 18 = .ok (.getfield 113, 3) := by decide +kernel
theorem d_M_rule_21 : decode prog_10_method_14_code 21 = .ok (.bipush 6, 2) := by decide +kernel
theorem d_M_rule_23 : decode prog_10_method_14_code 23 = .ok (.if_icmp .ne 17, 3) := by decide +kernel
theorem d_M_rule_26 : decode prog_10_method_14_code 26 = .ok (.aload_n 0, 1) := by decide +kernel
theorem d_M_rule_27 : decode prog_10_method_14_code 27 = .ok (.iload_n 1, 1) := by decide +kernel
theorem d_M_rule_28 : decode prog_10_method_14_code 28 = .ok (.ifCond .ge 7, 3) := by decide +kernel
theorem d_M_rule_31 : decode prog_10_method_14_code 31 = .ok (.iconst 1, 1) := by decide +kernel
theorem d_M_rule_32 : decode prog_10_method_14_code 32 = .ok (.goto 4, 3) := by decide +kernel
theorem d_M_rule_35 : decode prog_10_method_14_code 35 = .ok (.iconst 2, 1) := by decide +kernel
theorem d_M_rule_36 : decode prog_10_method_14_code 36 = .ok (.invokevirtual 116, 3) := by decide +kernel
theorem d_M_rule_39 : decode prog_10_method_14_code 39 = .ok (.ireturn, 1) := by decide +kernel
theorem d_M_rule_40 : decode prog_10_method_14_code 40 = .ok (.aload_n 0, 1) := by decide +kernel
theorem d_M_rule_41 : decode prog_10_method_14_code 41 = .ok (.getfield 20, 3) := by decide +kernel
theorem d_M_rule_44 : decode prog_10_method_14_code 44 = .ok (.iconst 2, 1) := by decide +kernel
theorem d_M_rule_45 : decode prog_10_method_14_code 45 = .ok (.aload_n 0, 1) := by decide +kernel
theorem d_M_rule_46 : decode prog_10_method_14_code 46 = .ok (.getfield 113, 3) := by decide +kernel
theorem d_M_rule_49 : decode prog_10_method_14_code 49 = .ok (.imul, 1) := by decide +kernel
theorem d_M_rule_50 : decode prog_10_method_14_code 50 = .ok (.iload_n 1, 1) := by decide +kernel
theorem d_M_rule_51 : decode prog_10_method_14_code 51 = .ok (.iconst 1, 1) := by decide +kernel
theorem d_M_rule_52 : decode prog_10_method_14_code 52 = .ok (.isub, 1) := by decide +kernel
theorem d_M_rule_53 : decode prog_10_method_14_code 53 = .ok (.iastore, 1) := by decide +kernel
theorem d_M_rule_54 : decode prog_10_method_14_code 54 = .ok (.aload_n 0, 1) := by decide +kernel
theorem d_M_rule_55 : decode prog_10_method_14_code 55 = .ok (.getfield 20, 3) := by decide +kernel
theorem d_M_rule_58 : decode prog_10_method_14_code 58 = .ok (.iconst 2, 1) := by decide +kernel
theorem d_M_rule_59 : decode prog_10_method_14_code 59 = .ok (.aload_n 0, 1) := by decide +kernel
theorem d_M_rule_60 : decode prog_10_method_14_code 60 = .ok (.getfield 113, 3) := by decide +kernel
theorem d_M_rule_63 : decode prog_10_method_14_code 63 = .ok (.imul, 1) := by decide +kernel
theorem d_M_rule_64 : decode prog_10_method_14_code 64 = .ok (.iconst 1, 1) := by decide +kernel
theorem d_M_rule_65 : decode prog_10_method_14_code 65 = .ok (.iadd, 1) := by decide +kernel
theorem d_M_rule_66 : decode prog_10_method_14_code 66 = .ok (.aload_n 0, 1) := by decide +kernel
theorem d_M_rule_67 : decode prog_10_method_14_code 67 = .ok (.getfield 79, 3) := by decide +kernel
theorem d_M_rule_70 : decode prog_10_method_14_code 70 = .ok (.iload_n 1, 1) := by decide +kernel
theorem d_M_rule_71 : decode prog_10_method_14_code 71 = .ok (.isub, 1) := by decide +kernel
theorem d_M_rule_72 : decode prog_10_method_14_code 72 = .ok (.iastore, 1) := by decide +kernel
theorem d_M_rule_73 : decode prog_10_method_14_code 73 = .ok (.iconst 0, 1) := by decide +kernel
theorem d_M_rule_74 : decode prog_10_method_14_code 74 = .ok (.istore_n 2, 1) := by decide +kernel
theorem d_M_rule_75 : decode prog_10_method_14_code 75 = .ok (.iload_n 2, 1) := by decide +kernel
theorem d_M_rule_76 : decode prog_10_method_14_code 76 = .ok (.iload_n 1, 1) := by decide +kernel
theorem d_M_rule_77 : decode prog_10_method_14_code 77 = .ok (.iconst 1, 1) := by decide +kernel
theorem d_M_rule_78 : decode prog_10_method_14_code 78 = .ok (.isub, 1) := by decide +kernel
theorem d_M_rule_79 : decode prog_10_method_14_code 79 = .ok (.if_icmp .ge 29, 3) := by decide +kernel
theorem d_M_rule_82 : decode prog_10_method_14_code 82 = .ok (.aload_n 0, 1) := by decide +kernel
theorem d_M_rule_83 : decode prog_10_method_14_code 83 = .ok (.getfield 17, 3) := by decide +kernel
theorem d_M_rule_86 : decode prog_10_method_14_code 86 = .ok (.bipush 14, 2) := by decide +kernel
theorem d_M_rule_88 : decode prog_10_method_14_code 88 = .ok (.aload_n 0, 1) := by decide +kernel
theorem d_M_rule_89 : decode prog_10_method_14_code 89 = .ok (.getfield 113, 3) := by decide +kernel
theorem d_M_rule_92 : decode prog_10_method_14_code 92 = .ok (.imul, 1) := by decide +kernel
theorem d_M_rule_93 : decode prog_10_method_14_code 93 = .ok (.iload_n 2, 1) := by decide +kernel
theorem d_M_rule_94 : decode prog_10_method_14_code 94 = .ok (.iadd, 1) := by decide +kernel
theorem d_M_rule_95 : decode prog_10_method_14_code 95 = .ok (.aload_n 0, 1) := by decide +kernel
theorem d_M_rule_96 : decode prog_10_method_14_code 96 = .ok (.getfield 7, 3) := by decide +kernel
theorem d_M_rule_99 : decode prog_10_method_14_code 99 = .ok (.iload_n 2, 1) := by decide +kernel
theorem d_M_rule_100 : decode prog_10_method_14_code 100 = .ok (.iaload, 1) := by decide +kernel
theorem d_M_rule_101 : decode prog_10_method_14_code 101 = .ok (.iastore, 1) := by decide +kernel
theorem d_M_rule_102 : decode prog_10_method_14_code 102 = .ok (.iinc 2 1, 3) := by decide +kernel
theorem d_M_rule_105 : decode prog_10_method_14_code 105 = .ok (.goto (-30), 3) := by decide +kernel
theorem d_M_rule_108 : decode prog_10_method_14_code 108 = .ok (.iload_n 1, 1) := by decide +kernel
theorem d_M_rule_109 : decode prog_10_method_14_code 109 = .ok (.istore_n 2, 1) := by decide +kernel
theorem d_M_rule_110 : decode prog_10_method_14_code 110 = .ok (.iload_n 2, 1) := by decide +kernel
theorem d_M_rule_111 : decode prog_10_method_14_code 111 = .ok (.aload_n 0, 1) := by decide +kernel
theorem d_M_rule_112 : decode prog_10_method_14_code 112 = .ok (.getfield 79, 3) := by decide +kernel
theorem d_M_rule_115 : decode prog_10_method_14_code 115 = .ok (.if_icmp .ge 34, 3) := by decide +kernel
theorem d_M_rule_118 : decode prog_10_method_14_code 118 = .ok (.aload_n 0, 1) := by decide +kernel
theorem d_M_rule_119 : decode prog_10_method_14_code 119 = .ok (.getfield 17, 3) := by decide +kernel
theorem d_M_rule_122 : decode prog_10_method_14_code 122 = .ok (.bipush 14, 2) := by decide +kernel
theorem d_M_rule_124 : decode prog_10_method_14_code 124 = .ok (.aload_n 0, 1) := by decide +kernel
theorem d_M_rule_125 : decode prog_10_method_14_code 125 = .ok (.getfield 113, 3) := by decide +kernel
theorem d_M_rule_128 : decode prog_10_method_14_code 128 = .ok (.imul, 1) := by decide +kernel
theorem d_M_rule_129 : decode prog_10_method_14_code 129 = .ok (.bipush 7, 2) := by decide +kernel
theorem d_M_rule_131 : decode prog_10_method_14_code 131 = .ok (.iadd, 1) := by decide +kernel
theorem d_M_rule_132 : decode prog_10_method_14_code 132 = .ok (.iload_n 2, 1) := by decide +kernel
theorem d_M_rule_133 : decode prog_10_method_14_code 133 = .ok (.iadd, 1) := by decide +kernel
theorem d_M_rule_134 : decode prog_10_method_14_code 134 = .ok (.iload_n 1, 1) := by decide +kernel
theorem d_M_rule_135 : decode prog_10_method_14_code 135 = .ok (.isub, 1) := by decide +kernel
theorem d_M_rule_136 : decode prog_10_method_14_code 136 = .ok (.aload_n 0, 1) := by decide +kernel
theorem d_M_rule_137 : decode prog_10_method_14_code 137 = .ok (.getfield 7, 3) := by decide +kernel
theorem d_M_rule_140 : decode prog_10_method_14_code 140 = .ok (.iload_n 2, 1) := by decide +kernel
theorem d_M_rule_141 : decode prog_10_method_14_code 141 = .ok (.iaload, 1) := by decide +kernel
theorem d_M_rule_142 : decode prog_10_method_14_code 142 = .ok (.iastore, 1) := by decide +kernel
theorem d_M_rule_143 : decode prog_10_method_14_code 143 = .ok (.iinc 2 1, 3) := by decide +kernel
theorem d_M_rule_146 : decode prog_10_method_14_code 146 = .ok (.goto (-36), 3) := by decide +kernel
theorem d_M_rule_149 : decode prog_10_method_14_code 149 = .ok (.aload_n 0, 1) := by decide +kernel
theorem d_M_rule_150 : decode prog_10_method_14_code 150 = .ok (.dup, 1) := by decide +kernel
theorem d_M_rule_151 : decode prog_10_method_14_code 151 = .ok (.getfield 113, 3) := by decide +kernel
theorem d_M_rule_154 : decode prog_10_method_14_code 154 = .ok (.iconst 1, 1) := by decide +kernel
theorem d_M_rule_155 : decode prog_10_method_14_code 155 = .ok (.iadd, 1) := by decide +kernel
theorem d_M_rule_156 : decode prog_10_method_14_code 156 = .ok (.putfield 113, 3) := by decide +kernel
theorem d_M_rule_159 : decode prog_10_method_14_code 159 = .ok (.aload_n 0, 1) := by decide +kernel
theorem d_M_rule_160 : decode prog_10_method_14_code 160 = .ok (.iconst 0, 1) := by decide +kernel
theorem d_M_rule_161 : decode prog_10_method_14_code 161 = .ok (.putfield 79, 3) := by decide +kernel
theorem d_M_rule_164 : decode prog_10_method_14_code 164 = .ok (.aload_n 0, 1) := by decide +kernel
theorem d_M_rule_165 : decode prog_10_method_14_code 165 = .ok (.getfield 113, 3) := by decide +kernel
theorem d_M_rule_168 : decode prog_10_method_14_code 168 = .ok (.ireturn, 1) := by decide +kernel
theorem d_M_add_0 : decode prog_10_method_26_code 0 = .ok (.aload_n 0, 1) := by decide +kernel
theorem d_M_add_1 : decode prog_10_method_26_code 1 = .ok (.iconst 0, 1) := by decide +kernel
theorem d_M_add_2 : decode prog_10_method_26_code 2 = .ok (.putfield 72, 3) := by decide +kernel
theorem d_M_add_5 : decode prog_10_method_26_code 5 = .ok (.aload_n 0, 1) := by decide +kernel
theorem d_M_add_6 : decode prog_10_method_26_code 6 = .ok (.invokevirtual 157, 3) := by decide +kernel
theorem d_M_add_9 : decode prog_10_method_26_code 9 = .ok (.ifCond .ne 9, 3) := by decide +kernel
theorem d_M_add_12 : decode prog_10_method_26_code 12 = .ok (.aload_n 0, 1) := by decide +kernel
theorem d_M_add_13 : decode prog_10_method_26_code 13 = .ok (.iconst 1, 1) := by decide +kernel
theorem d_M_add_14 : decode prog_10_method_26_code 14 = .ok (.invokevirtual 116, 3) := by decide +kernel
theorem d_M_add_17 : decode prog_10_method_26_code 17 = .ok (.ireturn, 1) := by decide +kernel
theorem d_M_add_18 : decode prog_10_method_26_code 18 = .ok (.aload_n 0, 1) := by decide +kernel
theorem d_M_add_19 : decode prog_10_method_26_code 19 = .ok (.getfield 119, 3) := by decide +kernel
theorem d_M_add_22 : decode prog_10_method_26_code 22 = .ok (.istore_n 1, 1) := by decide +kernel
theorem d_M_add_23 : decode prog_10_method_26_code 23 = .ok (.aload_n 0, 1) := by decide +kernel
theorem d_M_add_24 : decode prog_10_method_26_code 24 = .ok (.getfield 126, 3) := by decide +kernel
theorem d_M_add_27 : decode prog_10_method_26_code 27 = .ok (.istore_n 2, 1) := by decide +kernel
theorem d_M_add_28 : decode prog_10_method_26_code 28 = .ok (.aload_n 0, 1) := by decide +kernel
theorem d_M_add_29 : decode prog_10_method_26_code 29 = .ok (.iconst 0, 1) := by decide +kernel
theorem d_M_add_30 : decode prog_10_method_26_code 30 = .ok (.aload_n 0, 1) := by decide +kernel
theorem d_M_add_31 : decode prog_10_method_26_code 31 = .ok (.getfield 79, 3) := by decide +kernel
theorem d_M_add_34 : decode prog_10_method_26_code 34 = .ok (.iconst 1, 1) := by decide +kernel
theorem d_M_add_35 : decode prog_10_method_26_code 35 = .ok (.invokevirtual 160, 3) := by decide +kernel
theorem d_M_add_38 : decode prog_10_method_26_code 38 = .ok (.istore_n 3, 1) := by decide +kernel
theorem d_M_add_39 : decode prog_10_method_26_code 39 = .ok (.aload_n 0, 1) := by decide +kernel
theorem d_M_add_40 : decode prog_10_method_26_code 40 = .ok (.getfield 119, 3) := by decide +kernel
theorem d_M_add_43 : decode prog_10_method_26_code 43 = .ok (.bipush 40, 2) := by decide +kernel
theorem d_M_add_45 : decode prog_10_method_26_code 45 = .ok (.if_icmp .le 15, 3) := by decide +kernel
theorem d_M_add_48 : decode prog_10_method_26_code 48 = .ok (.aload_n 0, 1) := by decide +kernel
theorem d_M_add_49 : decode prog_10_method_26_code 49 = .ok (.iload_n 1, 1) := by decide +kernel
theorem d_M_add_50 : decode prog_10_method_26_code 50 = .ok (.iload_n 2, 1) := by decide +kernel
theorem d_M_add_51 : decode prog_10_method_26_code 51 = .ok (.invokevirtual 163, 3) := by decide +kernel
theorem d_M_add_54 : decode prog_10_method_26_code 54 = .ok (.aload_n 0, 1) := by decide +kernel
theorem d_M_add_55 : decode prog_10_method_26_code 55 = .ok (.iconst 2, 1) := by decide +kernel
theorem d_M_add_56 : decode prog_10_method_26_code 56 = .ok (.invokevirtual 116, 3) := by decide +kernel
theorem d_M_add_59 : decode prog_10_method_26_code 59 = .ok (.ireturn, 1) := by decide +kernel
theorem d_M_add_60 : decode prog_10_method_26_code 60 = .ok (.aload_n 0, 1) := by decide +kernel
theorem d_M_add_61 : decode prog_10_method_26_code 61 = .ok (.iconst 0, 1) := by decide +kernel
theorem d_M_add_62 : decode prog_10_method_26_code 62 = .ok (.putfield 79, 3) := by decide +kernel
theorem d_M_add_65 : decode prog_10_method_26_code 65 = .ok (.aload_n 0, 1) := by decide +kernel
theorem d_M_add_66 : decode prog_10_method_26_code 66 = .ok (.getfield 119, 3) := by decide +kernel
theorem d_M_add_69 : decode prog_10_method_26_code 69 = .ok (.ireturn, 1) := by decide +kernel
theorem d_M_unite_0 : decode prog_10_method_27_code 0 = .ok (.aload_n 0, 1) := by decide +kernel
theorem d_M_unite_1 : decode prog_10_method_27_code 1 = .ok (.iconst 0, 1) := by decide +kernel
theorem d_M_unite_2 : decode prog_10_method_27_code 2 = .ok (.putfield 72, 3) := by decide +kernel
theorem d_M_unite_5 : decode prog_10_method_27_code 5 = .ok (.aload_n 0, 1) := by decide +kernel
theorem d_M_unite_6 : decode prog_10_method_27_code 6 = .ok (.bipush 60, 2) := by decide +kernel
theorem d_M_unite_8 : decode prog_10_method_27_code 8 = .ok (.iconst 0, 1) := by decide +kernel
theorem d_M_unite_9 : decode prog_10_method_27_code 9 = .ok (.invokevirtual 109, 3) := by decide +kernel
theorem d_M_unite_12 : decode prog_10_method_27_code 12 = .ok (.istore_n 1, 1) := by decide +kernel
theorem d_M_unite_13 : decode prog_10_method_27_code 13 = .ok (.iload_n 1, 1) := by decide +kernel
theorem d_M_unite_14 : decode prog_10_method_27_code 14 = .ok (.ifCond .ge 9, 3) := by decide +kernel
theorem d_M_unite_17 : decode prog_10_method_27_code 17 = .ok (.aload_n 0, 1) := by decide +kernel
theorem d_M_unite_18 : decode prog_10_method_27_code 18 = .ok (.iconst 1, 1) := by decide +kernel
theorem d_M_unite_19 : decode prog_10_method_27_code 19 = .ok (.invokevirtual 116, 3) := by decide +kernel
theorem d_M_unite_22 : decode prog_10_method_27_code 22 = .ok (.ireturn, 1) := by decide +kernel
theorem d_M_unite_23 : decode prog_10_method_27_code 23 = .ok (.aload_n 0, 1) := by decide +kernel
theorem d_M_unite_24 : decode prog_10_method_27_code 24 = .ok (.getfield 119, 3) := by decide +kernel
theorem d_M_unite_27 : decode prog_10_method_27_code 27 = .ok (.istore_n 2, 1) := by decide +kernel
theorem d_M_unite_28 : decode prog_10_method_27_code 28 = .ok (.aload_n 0, 1) := by decide +kernel
theorem d_M_unite_29 : decode prog_10_method_27_code 29 = .ok (.getfield 126, 3) := by decide +kernel
theorem d_M_unite_32 : decode prog_10_method_27_code 32 = .ok (.istore_n 3, 1) := by decide +kernel
theorem d_M_unite_33 : decode prog_10_method_27_code 33 = .ok (.aload_n 0, 1) := by decide +kernel
theorem d_M_unite_34 : decode prog_10_method_27_code 34 = .ok (.iconst 0, 1) := by decide +kernel
theorem d_M_unite_35 : decode prog_10_method_27_code 35 = .ok (.iload_n 1, 1) := by decide +kernel
theorem d_M_unite_36 : decode prog_10_method_27_code 36 = .ok (.iconst 1, 1) := by decide +kernel
theorem d_M_unite_37 : decode prog_10_method_27_code 37 = .ok (.isub, 1) := by decide +kernel
theorem d_M_unite_38 : decode prog_10_method_27_code 38 = .ok (.iconst 1, 1) := by decide +kernel
theorem d_M_unite_39 : decode prog_10_method_27_code 39 = .ok (.invokevirtual 160, 3) := by decide +kernel
theorem d_M_unite_42 : decode prog_10_method_27_code 42 = .ok (.istore 4, 2) := by decide +kernel
theorem d_M_unite_44 : decode prog_10_method_27_code 44 = .ok (.aload_n 0, 1) := by decide +kernel
theorem d_M_unite_45 : decode prog_10_method_27_code 45 = .ok (.getfield 119, 3) := by decide +kernel
theorem d_M_unite_48 : decode prog_10_method_27_code 48 = .ok (.bipush 40, 2) := by decide +kernel
theorem d_M_unite_50 : decode prog_10_method_27_code 50 = .ok (.if_icmp .le 7, 3) := by decide +kernel
theorem d_M_unite_53 : decode prog_10_method_27_code 53 = .ok (.iconst (-1), 1) := by decide +kernel
theorem d_M_unite_54 : decode prog_10_method_27_code 54 = .ok (.goto 13, 3) := by decide +kernel
theorem d_M_unite_57 : decode prog_10_method_27_code 57 = .ok (.aload_n 0, 1) := by decide +kernel
theorem d_M_unite_58 : decode prog_10_method_27_code 58 = .ok (.iload_n 1, 1) := by decide +kernel
theorem d_M_unite_59 : decode prog_10_method_27_code 59 = .ok (.aload_n 0, 1) := by decide +kernel
theorem d_M_unite_60 : decode prog_10_method_27_code 60 = .ok (.getfield 79, 3) := by decide +kernel
theorem d_M_unite_63 : decode prog_10_method_27_code 63 = .ok (.iconst 1, 1) := by decide +kernel
theorem d_M_unite_64 : decode prog_10_method_27_code 64 = .ok (.invokevirtual 160, 3) := by decide +kernel
theorem d_M_unite_67 : decode prog_10_method_27_code 67 = .ok (.istore 5, 2) := by decide +kernel
theorem d_M_unite_69 : decode prog_10_method_27_code 69 = .ok (.aload_n 0, 1) := by decide +kernel
theorem d_M_unite_70 : decode prog_10_method_27_code 70 = .ok (.getfield 119, 3) := by decide +kernel
theorem d_M_unite_73 : decode prog_10_method_27_code 73 = .ok (.bipush 40, 2) := by decide +kernel
theorem d_M_unite_75 : decode prog_10_method_27_code 75 = .ok (.if_icmp .le 15, 3) := by decide +kernel
theorem d_M_unite_78 : decode prog_10_method_27_code 78 = .ok (.aload_n 0, 1) := by decide +kernel
theorem d_M_unite_79 : decode prog_10_method_27_code 79 = .ok (.iload_n 2, 1) := by decide +kernel
theorem d_M_unite_80 : decode prog_10_method_27_code 80 = .ok (.iload_n 3, 1) := by decide +kernel
theorem d_M_unite_81 : decode prog_10_method_27_code 81 = .ok (.invokevirtual 163, 3) := by decide +kernel
theorem d_M_unite_84 : decode prog_10_method_27_code 84 = .ok (.aload_n 0, 1) := by decide +kernel
theorem d_M_unite_85 : decode prog_10_method_27_code 85 = .ok (.iconst 2, 1) := by decide +kernel
theorem d_M_unite_86 : decode prog_10_method_27_code 86 = .ok (.invokevirtual 116, 3) := by decide +kernel
theorem d_M_unite_89 : decode prog_10_method_27_code 89 = .ok (.ireturn, 1) := by decide +kernel
theorem d_M_unite_90 : decode prog_10_method_27_code 90 = .ok (.aload_n 0, 1) := by decide +kernel
theorem d_M_unite_91 : decode prog_10_method_27_code 91 = .ok (.iload 4, 2) := by decide +kernel
theorem d_M_unite_93 : decode prog_10_method_27_code 93 = .ok (.iload 5, 2) := by decide +kernel
theorem d_M_unite_95 : decode prog_10_method_27_code 95 = .ok (.invokevirtual 146, 3) := by decide +kernel
theorem d_M_unite_98 : decode prog_10_method_27_code 98 = .ok (.aload_n 0, 1) := by decide +kernel
theorem d_M_unite_99 : decode prog_10_method_27_code 99 = .ok (.invokevirtual 166, 3) := by decide +kernel
theorem d_M_unite_102 : decode prog_10_method_27_code 102 = .ok (.aload_n 0, 1) := by decide +kernel
theorem d_M_unite_103 : decode prog_10_method_27_code 103 = .ok (.iconst 0, 1) := by decide +kernel
theorem d_M_unite_104 : decode prog_10_method_27_code 104 = .ok (.putfield 79, 3) := by decide +kernel
theorem d_M_unite_107 : decode prog_10_method_27_code 107 = .ok (.aload_n 0, 1) := by decide +kernel
theorem d_M_unite_108 : decode prog_10_method_27_code 108 = .ok (.getfield 126, 3) := by decide +kernel
theorem d_M_unite_111 : decode prog_10_method_27_code 111 = .ok (.ireturn, 1) := by decide +kernel
theorem d_M_same_0 : decode prog_10_method_28_code 0 = .ok (.aload_n 0, 1) := by decide +kernel
theorem d_M_same_1 : decode prog_10_method_28_code 1 = .ok (.iconst 0, 1) := by decide +kernel
theorem d_M_same_2 : decode prog_10_method_28_code 2 = .ok (.putfield 72, 3) := by decide +kernel
theorem d_M_same_5 : decode prog_10_method_28_code 5 = .ok (.aload_n 0, 1) := by decide +kernel
theorem d_M_same_6 : decode prog_10_method_28_code 6 = .ok (.bipush 60, 2) := by decide +kernel
theorem d_M_same_8 : decode prog_10_method_28_code 8 = .ok (.iconst 0, 1) := by decide +kernel
theorem d_M_same_9 : decode prog_10_method_28_code 9 = .ok (.invokevirtual 109, 3) := by decide +kernel
theorem d_M_same_12 : decode prog_10_method_28_code 12 = .ok (.istore_n 1, 1) := by decide +kernel
theorem d_M_same_13 : decode prog_10_method_28_code 13 = .ok (.iload_n 1, 1) := by decide +kernel
theorem d_M_same_14 : decode prog_10_method_28_code 14 = .ok (.ifCond .ge 9, 3) := by decide +kernel
theorem d_M_same_17 : decode prog_10_method_28_code 17 = .ok (.aload_n 0, 1) := by decide +kernel
theorem d_M_same_18 : decode prog_10_method_28_code 18 = .ok (.iconst 1, 1) := by decide +kernel
theorem d_M_same_19 : decode prog_10_method_28_code 19 = .ok (.invokevirtual 116, 3) := by decide +kernel
theorem d_M_same_22 : decode prog_10_method_28_code 22 = .ok (.ireturn, 1) := by decide +kernel
theorem d_M_same_23 : decode prog_10_method_28_code 23 = .ok (.aload_n 0, 1) := by decide +kernel
theorem d_M_same_24 : decode prog_10_method_28_code 24 = .ok (.iconst 0, 1) := by decide +kernel
theorem d_M_same_25 : decode prog_10_method_28_code 25 = .ok (.iload_n 1, 1) := by decide +kernel
theorem d_M_same_26 : decode prog_10_method_28_code 26 = .ok (.iconst 1, 1) := by decide +kernel
theorem d_M_same_27 : decode prog_10_method_28_code 27 = .ok (.isub, 1) := by decide +kernel
theorem d_M_same_28 : decode prog_10_method_28_code 28 = .ok (.iconst 0, 1) := by decide +kernel
theorem d_M_same_29 : decode prog_10_method_28_code 29 = .ok (.invokevirtual 160, 3) := by decide +kernel
theorem d_M_same_32 : decode prog_10_method_28_code 32 = .ok (.istore_n 2, 1) := by decide +kernel
theorem d_M_same_33 : decode prog_10_method_28_code 33 = .ok (.aload_n 0, 1) := by decide +kernel
theorem d_M_same_34 : decode prog_10_method_28_code 34 = .ok (.iload_n 1, 1) := by decide +kernel
theorem d_M_same_35 : decode prog_10_method_28_code 35 = .ok (.aload_n 0, 1) := by decide +kernel
theorem d_M_same_36 : decode prog_10_method_28_code 36 = .ok (.getfield 79, 3) := by decide +kernel
theorem d_M_same_39 : decode prog_10_method_28_code 39 = .ok (.iconst 0, 1) := by decide +kernel
theorem d_M_same_40 : decode prog_10_method_28_code 40 = .ok (.invokevirtual 160, 3) := by decide +kernel
theorem d_M_same_43 : decode prog_10_method_28_code 43 = .ok (.istore_n 3, 1) := by decide +kernel
theorem d_M_same_44 : decode prog_10_method_28_code 44 = .ok (.aload_n 0, 1) := by decide +kernel
theorem d_M_same_45 : decode prog_10_method_28_code 45 = .ok (.iconst 0, 1) := by decide +kernel
theorem d_M_same_46 : decode prog_10_method_28_code 46 = .ok (.putfield 79, 3) := by decide +kernel
theorem d_M_same_49 : decode prog_10_method_28_code 49 = .ok (.iload_n 2, 1) := by decide +kernel
theorem d_M_same_50 : decode prog_10_method_28_code 50 = .ok (.ifCond .lt 7, 3) := by decide +kernel
theorem d_M_same_53 : decode prog_10_method_28_code 53 = .ok (.iload_n 3, 1) := by decide +kernel
theorem d_M_same_54 : decode prog_10_method_28_code 54 = .ok (.ifCond .ge 7, 3) := by decide +kernel
theorem d_M_same_57 : decode prog_10_method_28_code 57 = .ok (.iconst (-1), 1) := by decide +kernel
theorem d_M_same_58 : decode prog_10_method_28_code 58 = .ok (.goto 13, 3) := by decide +kernel
theorem d_M_same_61 : decode prog_10_method_28_code 61 = .ok (.iload_n 2, 1) := by decide +kernel
theorem d_M_same_62 : decode prog_10_method_28_code 62 = .ok (.iload_n 3, 1) := by decide +kernel
theorem d_M_same_63 : decode prog_10_method_28_code 63 = .ok (.if_icmp .ne 7, 3) := by decide +kernel
theorem d_M_same_66 : decode prog_10_method_28_code 66 = .ok (.iconst 1, 1) := by decide +kernel
theorem d_M_same_67 : decode prog_10_method_28_code 67 = .ok (.goto 4, 3) := by decide +kernel
theorem d_M_same_70 : decode prog_10_method_28_code 70 = .ok (.iconst 0, 1) := by decide +kernel
theorem d_M_same_71 : decode prog_10_method_28_code 71 = .ok (.ireturn, 1) := by decide +kernel
theorem d_M_price_0 : decode prog_10_method_29_code 0 = .ok (.aload_n 0, 1) := by decide +kernel
theorem d_M_price_1 : decode prog_10_method_29_code 1 = .ok (.iload_n 1, 1) := by decide +kernel
theorem d_M_price_2 : decode prog_10_method_29_code 2 = .ok (.invokestatic 98, 3) := by decide +kernel
theorem d_M_price_5 : decode prog_10_method_29_code 5 = .ok (.ifCond .lt 17, 3) := by decide +kernel
theorem d_M_price_8 : decode prog_10_method_29_code 8 = .ok (.iload_n 2, 1) := by decide +kernel
theorem d_M_price_9 : decode prog_10_method_29_code 9 = .ok (.iconst 1, 1) := by decide +kernel
theorem d_M_price_10 : decode prog_10_method_29_code 10 = .ok (.ldc 169, 2) := by decide +kernel
theorem d_M_price_12 : decode prog_10_method_29_code 12 = .ok (.invokestatic 75, 3) := by decide +kernel
theorem d_M_price_15 : decode prog_10_method_29_code 15 = .ok (.ifCond .eq 7, 3) := by decide +kernel
theorem d_M_price_18 : decode prog_10_method_29_code 18 = .ok (.iconst 0, 1) := by decide +kernel
theorem d_M_price_19 : decode prog_10_method_29_code 19 = .ok (.goto 4, 3) := by decide +kernel
theorem d_M_price_22 : decode prog_10_method_29_code 22 = .ok (.iconst 1, 1) := by decide +kernel
theorem d_M_price_23 : decode prog_10_method_29_code 23 = .ok (.putfield 72, 3) := by decide +kernel
theorem d_M_price_26 : decode prog_10_method_29_code 26 = .ok (.aload_n 0, 1) := by decide +kernel
theorem d_M_price_27 : decode prog_10_method_29_code 27 = .ok (.getfield 72, 3) := by decide +kernel
theorem d_M_price_30 : decode prog_10_method_29_code 30 = .ok (.ifCond .ne 10, 3) := by decide +kernel
theorem d_M_price_33 : decode prog_10_method_29_code 33 = .ok (.aload_n 0, 1) := by decide +kernel
theorem d_M_price_34 : decode prog_10_method_29_code 34 = .ok (.getfield 56, 3) := by decide +kernel
theorem d_M_price_37 : decode prog_10_method_29_code 37 = .ok (.iload_n 1, 1) := by decide +kernel
theorem d_M_price_38 : decode prog_10_method_29_code 38 = .ok (.iload_n 2, 1) := by decide +kernel
theorem d_M_price_39 : decode prog_10_method_29_code 39 = .ok (.iastore, 1) := by decide +kernel
theorem d_M_price_40 : decode prog_10_method_29_code 40 = .ok (.return_, 1) := by decide +kernel
theorem d_M_kindOf_0 : decode prog_10_method_30_code 0 = .ok (.iload_n 0, 1) := by decide +kernel
theorem d_M_kindOf_1 : decode prog_10_method_30_code 1 = .ok (.bipush 43, 2) := by decide +kernel
theorem d_M_kindOf_3 : decode prog_10_method_30_code 3 = .ok (.if_icmp .eq 9, 3) := by decide +kernel
theorem d_M_kindOf_6 : decode prog_10_method_30_code 6 = .ok (.iload_n 0, 1) := by decide +kernel
theorem d_M_kindOf_7 : decode prog_10_method_30_code 7 = .ok (.bipush 45, 2) := by decide +kernel
theorem d_M_kindOf_9 : decode prog_10_method_30_code 9 = .ok (.if_icmp .ne 7, 3) := by decide +kernel
theorem d_M_kindOf_12 : decode prog_10_method_30_code 12 = .ok (.iconst 0, 1) := by decide +kernel
theorem d_M_kindOf_13 : decode prog_10_method_30_code 13 = .ok (.goto 20, 3) := by decide +kernel
theorem d_M_kindOf_16 : decode prog_10_method_30_code 16 = .ok (.iload_n 0, 1) := by decide +kernel
theorem d_M_kindOf_17 : decode prog_10_method_30_code 17 = .ok (.bipush 42, 2) := by decide +kernel
theorem d_M_kindOf_19 : decode prog_10_method_30_code 19 = .ok (.if_icmp .eq 9, 3) := by decide +kernel
theorem d_M_kindOf_22 : decode prog_10_method_30_code 22 = .ok (.iload_n 0, 1) := by decide +kernel
theorem d_M_kindOf_23 : decode prog_10_method_30_code 23 = .ok (.bipush 33, 2) := by decide +kernel
theorem d_M_kindOf_25 : decode prog_10_method_30_code 25 = .ok (.if_icmp .ne 7, 3) := by decide +kernel
theorem d_M_kindOf_28 : decode prog_10_method_30_code 28 = .ok (.iconst 1, 1) := by decide +kernel
theorem d_M_kindOf_29 : decode prog_10_method_30_code 29 = .ok (.goto 4, 3) := by decide +kernel
theorem d_M_kindOf_32 : decode prog_10_method_30_code 32 = .ok (.iconst 2, 1) := by decide +kernel
theorem d_M_kindOf_33 : decode prog_10_method_30_code 33 = .ok (.ireturn, 1) := by decide +kernel
theorem d_M_fillTables_0 : decode prog_10_method_31_code 0 = .ok (.iconst 0, 1) := by decide +kernel
theorem d_M_fillTables_1 : decode prog_10_method_31_code 1 = .ok (.istore_n 1, 1) := by decide +kernel
theorem d_M_fillTables_2 : decode prog_10_method_31_code 2 = .ok (.iload_n 1, 1) := by decide +kernel
theorem d_M_fillTables_3 : decode prog_10_method_31_code 3 = .ok (.sipush 128, 3) := by decide +kernel
theorem d_M_fillTables_6 : decode prog_10_method_31_code 6 = .ok (.if_icmp .ge 16, 3) := by decide +kernel
theorem d_M_fillTables_9 : decode prog_10_method_31_code 9 = .ok (.aload_n 0, 1) := by decide +kernel
theorem d_M_fillTables_10 : decode prog_10_method_31_code 10 = .ok (.getfield 47, 3) := by decide +kernel
theorem d_M_fillTables_13 : decode prog_10_method_31_code 13 = .ok (.iload_n 1, 1) := by decide +kernel
theorem d_M_fillTables_14 : decode prog_10_method_31_code 14 = .ok (.iconst (-1), 1) := by decide +kernel
theorem d_M_fillTables_15 : decode prog_10_method_31_code 15 = .ok (.iastore, 1) := by decide +kernel
theorem d_M_fillTables_16 : decode prog_10_method_31_code 16 = .ok (.iinc 1 1, 3) := by decide +kernel
theorem d_M_fillTables_19 : decode prog_10_method_31_code 19 = .ok (.goto (-17), 3) := by decide +kernel
theorem d_M_fillTables_22 : decode prog_10_method_31_code 22 = .ok (.iconst 0, 1) := by decide +kernel
theorem d_M_fillTables_23 : decode prog_10_method_31_code 23 = .ok (.istore_n 1, 1) := by decide +kernel
theorem d_M_fillTables_24 : decode prog_10_method_31_code 24 = .ok (.iload_n 1, 1) := by decide +kernel
theorem d_M_fillTables_25 : decode prog_10_method_31_code 25 = .ok (.bipush 80, 2) := by decide +kernel
theorem d_M_fillTables_27 : decode prog_10_method_31_code 27 = .ok (.if_icmp .ge 16, 3) := by decide +kernel
theorem d_M_fillTables_30 : decode prog_10_method_31_code 30 = .ok (.aload_n 0, 1) := by decide +kernel
theorem d_M_fillTables_31 : decode prog_10_method_31_code 31 = .ok (.getfield 50, 3) := by decide +kernel
theorem d_M_fillTables_34 : decode prog_10_method_31_code 34 = .ok (.iload_n 1, 1) := by decide +kernel
theorem d_M_fillTables_35 : decode prog_10_method_31_code 35 = .ok (.iconst (-1), 1) := by decide +kernel
theorem d_M_fillTables_36 : decode prog_10_method_31_code 36 = .ok (.iastore, 1) := by decide +kernel
theorem d_M_fillTables_37 : decode prog_10_method_31_code 37 = .ok (.iinc 1 1, 3) := by decide +kernel
theorem d_M_fillTables_40 : decode prog_10_method_31_code 40 = .ok (.goto (-16), 3) := by decide +kernel
theorem d_M_fillTables_43 : decode prog_10_method_31_code 43 = .ok (.iconst 0, 1) := by decide +kernel
theorem d_M_fillTables_44 : decode prog_10_method_31_code 44 = .ok (.istore_n 1, 1) := by decide +kernel
theorem d_M_fillTables_45 : decode prog_10_method_31_code 45 = .ok (.iload_n 1, 1) := by decide +kernel
theorem d_M_fillTables_46 : decode prog_10_method_31_code 46 = .ok (.sipush 4800, 3) := by decide +kernel
theorem d_M_fillTables_49 : decode prog_10_method_31_code 49 = .ok (.if_icmp .ge 16, 3) := by decide +kernel
theorem d_M_fillTables_52 : decode prog_10_method_31_code 52 = .ok (.aload_n 0, 1) := by decide +kernel
theorem d_M_fillTables_53 : decode prog_10_method_31_code 53 = .ok (.getfield 53, 3) := by decide +kernel
theorem d_M_fillTables_56 : decode prog_10_method_31_code 56 = .ok (.iload_n 1, 1) := by decide +kernel
theorem d_M_fillTables_57 : decode prog_10_method_31_code 57 = .ok (.iconst (-1), 1) := by decide +kernel
theorem d_M_fillTables_58 : decode prog_10_method_31_code 58 = .ok (.iastore, 1) := by decide +kernel
theorem d_M_fillTables_59 : decode prog_10_method_31_code 59 = .ok (.iinc 1 1, 3) := by decide +kernel
theorem d_M_fillTables_62 : decode prog_10_method_31_code 62 = .ok (.goto (-17), 3) := by decide +kernel
theorem d_M_fillTables_65 : decode prog_10_method_31_code 65 = .ok (.iconst 0, 1) := by decide +kernel
theorem d_M_fillTables_66 : decode prog_10_method_31_code 66 = .ok (.istore_n 1, 1) := by decide +kernel
theorem d_M_fillTables_67 : decode prog_10_method_31_code 67 = .ok (.iload_n 1, 1) := by decide +kernel
theorem d_M_fillTables_68 : decode prog_10_method_31_code 68 = .ok (.aload_n 0, 1) := by decide +kernel
theorem d_M_fillTables_69 : decode prog_10_method_31_code 69 = .ok (.getfield 119, 3) := by decide +kernel
theorem d_M_fillTables_72 : decode prog_10_method_31_code 72 = .ok (.if_icmp .ge 110, 3) := by decide +kernel
theorem d_M_fillTables_75 : decode prog_10_method_31_code 75 = .ok (.aload_n 0, 1) := by decide +kernel
theorem d_M_fillTables_76 : decode prog_10_method_31_code 76 = .ok (.getfield 23, 3) := by decide +kernel
theorem d_M_fillTables_79 : decode prog_10_method_31_code 79 = .ok (.iload_n 1, 1) := by decide +kernel
theorem d_M_fillTables_80 : decode prog_10_method_31_code 80 = .ok (.iaload, 1) := by decide +kernel
theorem d_M_fillTables_81 : decode prog_10_method_31_code 81 = .ok (.istore_n 2, 1) := by decide +kernel
theorem d_M_fillTables_82 : decode prog_10_method_31_code 82 = .ok (.iload_n 2, 1) := by decide +kernel
theorem d_M_fillTables_83 : decode prog_10_method_31_code 83 = .ok (.invokestatic 98, 3) := by decide +kernel
theorem d_M_fillTables_86 : decode prog_10_method_31_code 86 = .ok (.ifCond .ne 18, 3) := by decide +kernel
theorem d_M_fillTables_89 : decode prog_10_method_31_code 89 = .ok (.aload_n 0, 1) := by decide +kernel
theorem d_M_fillTables_90 : decode prog_10_method_31_code 90 = .ok (.getfield 47, 3) := by decide +kernel
theorem d_M_fillTables_93 : decode prog_10_method_31_code 93 = .ok (.iload_n 2, 1) := by decide +kernel
theorem d_M_fillTables_94 : decode prog_10_method_31_code 94 = .ok (.aload_n 0, 1) := by decide +kernel
theorem d_M_fillTables_95 : decode prog_10_method_31_code 95 = .ok (.getfield 32, 3) := by decide +kernel
theorem d_M_fillTables_98 : decode prog_10_method_31_code 98 = .ok (.iload_n 1, 1) := by decide +kernel
theorem d_M_fillTables_99 : decode prog_10_method_31_code 99 = .ok (.iaload, 1) := by decide +kernel
theorem d_M_fillTables_100 : decode prog_10_method_31_code 100 = .ok (.iastore, 1) := by decide +kernel
theorem d_M_fillTables_101 : decode prog_10_method_31_code 101 = .ok (.goto 75, 3) := by decide +kernel
theorem d_M_fillTables_104 : decode prog_10_method_31_code 104 = .ok (.iload_n 2, 1) := by decide +kernel
theorem d_M_fillTables_105 : decode prog_10_method_31_code 105 = .ok (.invokestatic 98, 3) := by decide +kernel
theorem d_M_fillTables_108 : decode prog_10_method_31_code 108 = .ok (.iconst 1, 1) := by decide +kernel
theorem d_M_fillTables_109 : decode prog_10_method_31_code 109 = .ok (.if_icmp .ne 31, 3) := by decide +kernel
theorem d_M_fillTables_112 : decode prog_10_method_31_code 112 = .ok (.aload_n 0, 1) := by decide +kernel
theorem d_M_fillTables_113 : decode prog_10_method_31_code 113 = .ok (.getfield 50, 3) := by decide +kernel
theorem d_M_fillTables_116 : decode prog_10_method_31_code 116 = .ok (.bipush 40, 2) := by decide +kernel
theorem d_M_fillTables_118 : decode prog_10_method_31_code 118 = .ok (.iload_n 2, 1) := by decide +kernel
theorem d_M_fillTables_119 : decode prog_10_method_31_code 119 = .ok (.invokestatic 170, 3) := by decide +kernel
theorem d_M_fillTables_122 : decode prog_10_method_31_code 122 = .ok (.imul, 1) := by decide +kernel
theorem d_M_fillTables_123 : decode prog_10_method_31_code 123 = .ok (.aload_n 0, 1) := by decide +kernel
theorem d_M_fillTables_124 : decode prog_10_method_31_code 124 = .ok (.getfield 26, 3) := by decide +kernel
theorem d_M_fillTables_127 : decode prog_10_method_31_code 127 = .ok (.iload_n 1, 1) := by decide +kernel
theorem d_M_fillTables_128 : decode prog_10_method_31_code 128 = .ok (.iaload, 1) := by decide +kernel
theorem d_M_fillTables_129 : decode prog_10_method_31_code 129 = .ok (.iadd, 1) := by decide +kernel
theorem d_M_fillTables_130 : decode prog_10_method_31_code 130 = .ok (.aload_n 0, 1) := by decide +kernel
theorem d_M_fillTables_131 : decode prog_10_method_31_code 131 = .ok (.getfield 32, 3) := by decide +kernel
theorem d_M_fillTables_134 : decode prog_10_method_31_code 134 = .ok (.iload_n 1, 1) := by decide +kernel
theorem d_M_fillTables_135 : decode prog_10_method_31_code 135 = .ok (.iaload, 1) := by decide +kernel
theorem d_M_fillTables_136 : decode prog_10_method_31_code 136 = .ok (.iastore, 1) := by decide +kernel
theorem d_M_fillTables_137 : decode prog_10_method_31_code 137 = .ok (.goto 39, 3) := by decide +kernel
theorem d_M_fillTables_140 : decode prog_10_method_31_code 140 = .ok (.aload_n 0, 1) := by decide +kernel
theorem d_M_fillTables_141 : decode prog_10_method_31_code 141 = .ok (.getfield 53, 3) := by decide +kernel
theorem d_M_fillTables_144 : decode prog_10_method_31_code 144 = .ok (.sipush 1600, 3) := by decide +kernel
theorem d_M_fillTables_147 : decode prog_10_method_31_code 147 = .ok (.iload_n 2, 1) := by decide +kernel
theorem d_M_fillTables_148 : decode prog_10_method_31_code 148 = .ok (.invokestatic 170, 3) := by decide +kernel
theorem d_M_fillTables_151 : decode prog_10_method_31_code 151 = .ok (.imul, 1) := by decide +kernel
theorem d_M_fillTables_152 : decode prog_10_method_31_code 152 = .ok (.bipush 40, 2) := by decide +kernel
theorem d_M_fillTables_154 : decode prog_10_method_31_code 154 = .ok (.aload_n 0, 1) := by decide +kernel
theorem d_M_fillTables_155 : decode prog_10_method_31_code 155 = .ok (.getfield 26, 3) := by decide +kernel
theorem d_M_fillTables_158 : decode prog_10_method_31_code 158 = .ok (.iload_n 1, 1) := by decide +kernel
theorem d_M_fillTables_159 : decode prog_10_method_31_code 159 = .ok (.iaload, 1) := by decide +kernel
theorem d_M_fillTables_160 : decode prog_10_method_31_code 160 = .ok (.imul, 1) := by decide +kernel
theorem d_M_fillTables_161 : decode prog_10_method_31_code 161 = .ok (.iadd, 1) := by decide +kernel
theorem d_M_fillTables_162 : decode prog_10_method_31_code 162 = .ok (.aload_n 0, 1) := by decide +kernel
theorem d_M_fillTables_163 : decode prog_10_method_31_code 163 = .ok (.getfield 29, 3) := by decide +kernel
theorem d_M_fillTables_166 : decode prog_10_method_31_code 166 = .ok (.iload_n 1, 1) := by decide +kernel
theorem d_M_fillTables_167 : decode prog_10_method_31_code 167 = .ok (.iaload, 1) := by decide +kernel
theorem d_M_fillTables_168 : decode prog_10_method_31_code 168 = .ok (.iadd, 1) := by decide +kernel
theorem d_M_fillTables_169 : decode prog_10_method_31_code 169 = .ok (.aload_n 0, 1) := by decide +kernel
theorem d_M_fillTables_170 : decode prog_10_method_31_code 170 = .ok (.getfield 32, 3) := by decide +kernel
theorem d_M_fillTables_173 : decode prog_10_method_31_code 173 = .ok (.iload_n 1, 1) := by decide +kernel
theorem d_M_fillTables_174 : decode prog_10_method_31_code 174 = .ok (.iaload, 1) := by decide +kernel
theorem d_M_fillTables_175 : decode prog_10_method_31_code 175 = .ok (.iastore, 1) := by decide +kernel
theorem d_M_fillTables_176 : decode prog_10_method_31_code 176 = .ok (.iinc 1 1, 3) := by decide +kernel
theorem d_M_fillTables_179 : decode prog_10_method_31_code 179 = .ok (.goto (-112), 3) := by decide +kernel
theorem d_M_fillTables_182 : decode prog_10_method_31_code 182 = .ok (.return_, 1) := by decide +kernel
theorem d_M_oneRound_0 : decode prog_10_method_36_code 0 = .ok (.aload_n 0, 1) := by decide +kernel
theorem d_M_oneRound_1 : decode prog_10_method_36_code 1 = .ok (.getfield 119, 3) := by decide +kernel
theorem d_M_oneRound_4 : decode prog_10_method_36_code 4 = .ok (.istore_n 1, 1) := by decide +kernel
theorem d_M_oneRound_5 : decode prog_10_method_36_code 5 = .ok (.aload_n 0, 1) := by decide +kernel
theorem d_M_oneRound_6 : decode prog_10_method_36_code 6 = .ok (.getfield 126, 3) := by decide +kernel
theorem d_M_oneRound_9 : decode prog_10_method_36_code 9 = .ok (.istore_n 2, 1) := by decide +kernel
theorem d_M_oneRound_10 : decode prog_10_method_36_code 10 = .ok (.aload_n 0, 1) := by decide +kernel
theorem d_M_oneRound_11 : decode prog_10_method_36_code 11 = .ok (.iconst 0, 1) := by decide +kernel
theorem d_M_oneRound_12 : decode prog_10_method_36_code 12 = .ok (.putfield 139, 3) := by decide +kernel
theorem d_M_oneRound_15 : decode prog_10_method_36_code 15 = .ok (.aload_n 0, 1) := by decide +kernel
theorem d_M_oneRound_16 : decode prog_10_method_36_code 16 = .ok (.invokevirtual 186, 3) := by decide +kernel
theorem d_M_oneRound_19 : decode prog_10_method_36_code 19 = .ok (.iconst 0, 1) := by decide +kernel
theorem d_M_oneRound_20 : decode prog_10_method_36_code 20 = .ok (.istore_n 3, 1) := by decide +kernel
theorem d_M_oneRound_21 : decode prog_10_method_36_code 21 = .ok (.iload_n 3, 1) := by decide +kernel
theorem d_M_oneRound_22 : decode prog_10_method_36_code 22 = .ok (.aload_n 0, 1) := by decide +kernel
theorem d_M_oneRound_23 : decode prog_10_method_36_code 23 = .ok (.getfield 113, 3) := by decide +kernel
theorem d_M_oneRound_26 : decode prog_10_method_36_code 26 = .ok (.if_icmp .ge 15, 3) := by decide +kernel
theorem d_M_oneRound_29 : decode prog_10_method_36_code 29 = .ok (.aload_n 0, 1) := by decide +kernel
theorem d_M_oneRound_30 : decode prog_10_method_36_code 30 = .ok (.iload_n 3, 1) := by decide +kernel
theorem d_M_oneRound_31 : decode prog_10_method_36_code 31 = .ok (.iload_n 2, 1) := by decide +kernel
theorem d_M_oneRound_32 : decode prog_10_method_36_code 32 = .ok (.invokevirtual 189, 3) := by decide +kernel
theorem d_M_oneRound_35 : decode prog_10_method_36_code 35 = .ok (.iinc 3 1, 3) := by decide +kernel
theorem d_M_oneRound_38 : decode prog_10_method_36_code 38 = .ok (.goto (-17), 3) := by decide +kernel
theorem d_M_oneRound_41 : decode prog_10_method_36_code 41 = .ok (.aload_n 0, 1) := by decide +kernel
theorem d_M_oneRound_42 : decode prog_10_method_36_code 42 = .ok (.getfield 119, 3) := by decide +kernel
theorem d_M_oneRound_45 : decode prog_10_method_36_code 45 = .ok (.bipush 40, 2) := by decide +kernel
theorem d_M_oneRound_47 : decode prog_10_method_36_code 47 = .ok (.if_icmp .le 12, 3) := by decide +kernel
theorem d_M_oneRound_50 : decode prog_10_method_36_code 50 = .ok (.aload_n 0, 1) := by decide +kernel
theorem d_M_oneRound_51 : decode prog_10_method_36_code 51 = .ok (.iload_n 1, 1) := by decide +kernel
theorem d_M_oneRound_52 : decode prog_10_method_36_code 52 = .ok (.iload_n 2, 1) := by decide +kernel
theorem d_M_oneRound_53 : decode prog_10_method_36_code 53 = .ok (.invokevirtual 163, 3) := by decide +kernel
theorem d_M_oneRound_56 : decode prog_10_method_36_code 56 = .ok (.bipush (-2), 2) := by decide +kernel
theorem d_M_oneRound_58 : decode prog_10_method_36_code 58 = .ok (.ireturn, 1) := by decide +kernel
theorem d_M_oneRound_59 : decode prog_10_method_36_code 59 = .ok (.aload_n 0, 1) := by decide +kernel
theorem d_M_oneRound_60 : decode prog_10_method_36_code 60 = .ok (.getfield 119, 3) := by decide +kernel
theorem d_M_oneRound_63 : decode prog_10_method_36_code 63 = .ok (.iload_n 1, 1) := by decide +kernel
theorem d_M_oneRound_64 : decode prog_10_method_36_code 64 = .ok (.if_icmp .le 7, 3) := by decide +kernel
theorem d_M_oneRound_67 : decode prog_10_method_36_code 67 = .ok (.iconst 1, 1) := by decide +kernel
theorem d_M_oneRound_68 : decode prog_10_method_36_code 68 = .ok (.goto 4, 3) := by decide +kernel
theorem d_M_oneRound_71 : decode prog_10_method_36_code 71 = .ok (.iconst 0, 1) := by decide +kernel
theorem d_M_oneRound_72 : decode prog_10_method_36_code 72 = .ok (.istore_n 3, 1) := by decide +kernel
theorem d_M_oneRound_73 : decode prog_10_method_36_code 73 = .ok (.aload_n 0, 1) := by decide +kernel
theorem d_M_oneRound_74 : decode prog_10_method_36_code 74 = .ok (.invokevirtual 166, 3) := by decide +kernel
theorem d_M_oneRound_77 : decode prog_10_method_36_code 77 = .ok (.iload_n 3, 1) := by decide +kernel
theorem d_M_oneRound_78 : decode prog_10_method_36_code 78 = .ok (.ifCond .ne 10, 3) := by decide +kernel
theorem d_M_oneRound_81 : decode prog_10_method_36_code 81 = .ok (.aload_n 0, 1) := by decide +kernel
theorem d_M_oneRound_82 : decode prog_10_method_36_code 82 = .ok (.getfield 139, 3) := by decide +kernel
theorem d_M_oneRound_85 : decode prog_10_method_36_code 85 = .ok (.ifCond .eq 7, 3) := by decide +kernel
theorem d_M_oneRound_88 : decode prog_10_method_36_code 88 = .ok (.iconst 1, 1) := by decide +kernel
theorem d_M_oneRound_89 : decode prog_10_method_36_code 89 = .ok (.goto 4, 3) := by decide +kernel
theorem d_M_oneRound_92 : decode prog_10_method_36_code 92 = .ok (.iconst 0, 1) := by decide +kernel
theorem d_M_oneRound_93 : decode prog_10_method_36_code 93 = .ok (.ireturn, 1) := by decide +kernel
theorem d_M_rounds_0 : decode prog_10_method_37_code 0 = .ok (.aload_n 0, 1) := by decide +kernel
theorem d_M_rounds_1 : decode prog_10_method_37_code 1 = .ok (.iload_n 1, 1) := by decide +kernel
theorem d_M_rounds_2 : decode prog_10_method_37_code 2 = .ok (.iconst 0, 1) := by decide +kernel
theorem d_M_rounds_3 : decode prog_10_method_37_code 3 = .ok (.bipush 20, 2) := by decide +kernel
theorem d_M_rounds_5 : decode prog_10_method_37_code 5 = .ok (.invokestatic 75, 3) := by decide +kernel
theorem d_M_rounds_8 : decode prog_10_method_37_code 8 = .ok (.ifCond .eq 7, 3) := by decide +kernel
theorem d_M_rounds_11 : decode prog_10_method_37_code 11 = .ok (.iconst 0, 1) := by decide +kernel
theorem d_M_rounds_12 : decode prog_10_method_37_code 12 = .ok (.goto 4, 3) := by decide +kernel
theorem d_M_rounds_15 : decode prog_10_method_37_code 15 = .ok (.iconst 1, 1) := by decide +kernel
theorem d_M_rounds_16 : decode prog_10_method_37_code 16 = .ok (.putfield 72, 3) := by decide +kernel
theorem d_M_rounds_19 : decode prog_10_method_37_code 19 = .ok (.aload_n 0, 1) := by decide +kernel
theorem d_M_rounds_20 : decode prog_10_method_37_code 20 = .ok (.getfield 72, 3) := by decide +kernel
theorem d_M_rounds_23 : decode prog_10_method_37_code 23 = .ok (.ifCond .le 5, 3) := by decide +kernel
theorem d_M_rounds_26 : decode prog_10_method_37_code 26 = .ok (.iconst 0, 1) := by decide +kernel
theorem d_M_rounds_27 : decode prog_10_method_37_code 27 = .ok (.ireturn, 1) := by decide +kernel
theorem d_M_rounds_28 : decode prog_10_method_37_code 28 = .ok (.iconst 0, 1) := by decide +kernel
theorem d_M_rounds_29 : decode prog_10_method_37_code 29 = .ok (.istore_n 2, 1) := by decide +kernel
theorem d_M_rounds_30 : decode prog_10_method_37_code 30 = .ok (.iload_n 2, 1) := by decide +kernel
theorem d_M_rounds_31 : decode prog_10_method_37_code 31 = .ok (.iload_n 1, 1) := by decide +kernel
theorem d_M_rounds_32 : decode prog_10_method_37_code 32 = .ok (.if_icmp .ge 32, 3) := by decide +kernel
theorem d_M_rounds_35 : decode prog_10_method_37_code 35 = .ok (.aload_n 0, 1) := by decide +kernel
theorem d_M_rounds_36 : decode prog_10_method_37_code 36 = .ok (.invokevirtual 192, 3) := by decide +kernel
theorem d_M_rounds_39 : decode prog_10_method_37_code 39 = .ok (.istore_n 3, 1) := by decide +kernel
theorem d_M_rounds_40 : decode prog_10_method_37_code 40 = .ok (.iload_n 3, 1) := by decide +kernel
theorem d_M_rounds_41 : decode prog_10_method_37_code 41 = .ok (.iconst 1, 1) := by decide +kernel
theorem d_M_rounds_42 : decode prog_10_method_37_code 42 = .ok (.if_icmp .eq 16, 3) := by decide +kernel
theorem d_M_rounds_45 : decode prog_10_method_37_code 45 = .ok (.iload_n 3, 1) := by decide +kernel
theorem d_M_rounds_46 : decode prog_10_method_37_code 46 = .ok (.bipush (-2), 2) := by decide +kernel
theorem d_M_rounds_48 : decode prog_10_method_37_code 48 = .ok (.if_icmp .ne 8, 3) := by decide +kernel
theorem d_M_rounds_51 : decode prog_10_method_37_code 51 = .ok (.bipush (-2), 2) := by decide +kernel
theorem d_M_rounds_53 : decode prog_10_method_37_code 53 = .ok (.goto 4, 3) := by decide +kernel
theorem d_M_rounds_56 : decode prog_10_method_37_code 56 = .ok (.iload_n 2, 1) := by decide +kernel
theorem d_M_rounds_57 : decode prog_10_method_37_code 57 = .ok (.ireturn, 1) := by decide +kernel
theorem d_M_rounds_58 : decode prog_10_method_37_code 58 = .ok (.iinc 2 1, 3) := by decide +kernel
theorem d_M_rounds_61 : decode prog_10_method_37_code 61 = .ok (.goto (-31), 3) := by decide +kernel
theorem d_M_rounds_64 : decode prog_10_method_37_code 64 = .ok (.iload_n 2, 1) := by decide +kernel
theorem d_M_rounds_65 : decode prog_10_method_37_code 65 = .ok (.ireturn, 1) := by decide +kernel
theorem d_M_nodes_0 : decode prog_10_method_38_code 0 = .ok (.aload_n 0, 1) := by decide +kernel
theorem d_M_nodes_1 : decode prog_10_method_38_code 1 = .ok (.iconst 0, 1) := by decide +kernel
theorem d_M_nodes_2 : decode prog_10_method_38_code 2 = .ok (.putfield 72, 3) := by decide +kernel
theorem d_M_nodes_5 : decode prog_10_method_38_code 5 = .ok (.aload_n 0, 1) := by decide +kernel
theorem d_M_nodes_6 : decode prog_10_method_38_code 6 = .ok (.getfield 119, 3) := by decide +kernel
theorem d_M_nodes_9 : decode prog_10_method_38_code 9 = .ok (.ireturn, 1) := by decide +kernel
theorem d_M_classes_0 : decode prog_10_method_39_code 0 = .ok (.aload_n 0, 1) := by decide +kernel
theorem d_M_classes_1 : decode prog_10_method_39_code 1 = .ok (.iconst 0, 1) := by decide +kernel
theorem d_M_classes_2 : decode prog_10_method_39_code 2 = .ok (.putfield 72, 3) := by decide +kernel
theorem d_M_classes_5 : decode prog_10_method_39_code 5 = .ok (.aload_n 0, 1) := by decide +kernel
theorem d_M_classes_6 : decode prog_10_method_39_code 6 = .ok (.getfield 126, 3) := by decide +kernel
theorem d_M_classes_9 : decode prog_10_method_39_code 9 = .ok (.ireturn, 1) := by decide +kernel
theorem d_M_asked_0 : decode prog_10_method_40_code 0 = .ok (.aload_n 0, 1) := by decide +kernel
theorem d_M_asked_1 : decode prog_10_method_40_code 1 = .ok (.invokevirtual 157, 3) := by decide +kernel
theorem d_M_asked_4 : decode prog_10_method_40_code 4 = .ok (.ifCond .ne 9, 3) := by decide +kernel
theorem d_M_asked_7 : decode prog_10_method_40_code 7 = .ok (.aload_n 0, 1) := by decide +kernel
theorem d_M_asked_8 : decode prog_10_method_40_code 8 = .ok (.iconst 1, 1) := by decide +kernel
theorem d_M_asked_9 : decode prog_10_method_40_code 9 = .ok (.invokevirtual 116, 3) := by decide +kernel
theorem d_M_asked_12 : decode prog_10_method_40_code 12 = .ok (.ireturn, 1) := by decide +kernel
theorem d_M_asked_13 : decode prog_10_method_40_code 13 = .ok (.aload_n 0, 1) := by decide +kernel
theorem d_M_asked_14 : decode prog_10_method_40_code 14 = .ok (.iconst 0, 1) := by decide +kernel
theorem d_M_asked_15 : decode prog_10_method_40_code 15 = .ok (.putfield 72, 3) := by decide +kernel
theorem d_M_asked_18 : decode prog_10_method_40_code 18 = .ok (.aload_n 0, 1) := by decide +kernel
theorem d_M_asked_19 : decode prog_10_method_40_code 19 = .ok (.iconst 0, 1) := by decide +kernel
theorem d_M_asked_20 : decode prog_10_method_40_code 20 = .ok (.aload_n 0, 1) := by decide +kernel
theorem d_M_asked_21 : decode prog_10_method_40_code 21 = .ok (.getfield 79, 3) := by decide +kernel
theorem d_M_asked_24 : decode prog_10_method_40_code 24 = .ok (.iconst 0, 1) := by decide +kernel
theorem d_M_asked_25 : decode prog_10_method_40_code 25 = .ok (.invokevirtual 160, 3) := by decide +kernel
theorem d_M_asked_28 : decode prog_10_method_40_code 28 = .ok (.istore_n 1, 1) := by decide +kernel
theorem d_M_asked_29 : decode prog_10_method_40_code 29 = .ok (.aload_n 0, 1) := by decide +kernel
theorem d_M_asked_30 : decode prog_10_method_40_code 30 = .ok (.iconst 0, 1) := by decide +kernel
theorem d_M_asked_31 : decode prog_10_method_40_code 31 = .ok (.putfield 79, 3) := by decide +kernel
theorem d_M_asked_34 : decode prog_10_method_40_code 34 = .ok (.iload_n 1, 1) := by decide +kernel
theorem d_M_asked_35 : decode prog_10_method_40_code 35 = .ok (.ireturn, 1) := by decide +kernel
theorem d_M_members_0 : decode prog_10_method_41_code 0 = .ok (.aload_n 0, 1) := by decide +kernel
theorem d_M_members_1 : decode prog_10_method_41_code 1 = .ok (.invokevirtual 196, 3) := by decide +kernel
theorem d_M_members_4 : decode prog_10_method_41_code 4 = .ok (.istore_n 1, 1) := by decide +kernel
theorem d_M_members_5 : decode prog_10_method_41_code 5 = .ok (.aload_n 0, 1) := by decide +kernel
theorem d_M_members_6 : decode prog_10_method_41_code 6 = .ok (.getfield 72, 3) := by decide +kernel
theorem d_M_members_9 : decode prog_10_method_41_code 9 = .ok (.ifCond .le 5, 3) := by decide +kernel
theorem d_M_members_12 : decode prog_10_method_41_code 12 = .ok (.iconst 0, 1) := by decide +kernel
theorem d_M_members_13 : decode prog_10_method_41_code 13 = .ok (.ireturn, 1) := by decide +kernel
theorem d_M_members_14 : decode prog_10_method_41_code 14 = .ok (.iconst 0, 1) := by decide +kernel
theorem d_M_members_15 : decode prog_10_method_41_code 15 = .ok (.istore_n 2, 1) := by decide +kernel
theorem d_M_members_16 : decode prog_10_method_41_code 16 = .ok (.iconst 0, 1) := by decide +kernel
theorem d_M_members_17 : decode prog_10_method_41_code 17 = .ok (.istore_n 3, 1) := by decide +kernel
theorem d_M_members_18 : decode prog_10_method_41_code 18 = .ok (.iload_n 3, 1) := by decide +kernel
theorem d_M_members_19 : decode prog_10_method_41_code 19 = .ok (.aload_n 0, 1) := by decide +kernel
theorem d_M_members_20 : decode prog_10_method_41_code 20 = .ok (.getfield 119, 3) := by decide +kernel
theorem d_M_members_23 : decode prog_10_method_41_code 23 = .ok (.if_icmp .ge 27, 3) := by decide +kernel
theorem d_M_members_26 : decode prog_10_method_41_code 26 = .ok (.aload_n 0, 1) := by decide +kernel
theorem d_M_members_27 : decode prog_10_method_41_code 27 = .ok (.getfield 32, 3) := by decide +kernel
theorem d_M_members_30 : decode prog_10_method_41_code 30 = .ok (.iload_n 3, 1) := by decide +kernel
theorem d_M_members_31 : decode prog_10_method_41_code 31 = .ok (.iaload, 1) := by decide +kernel
theorem d_M_members_32 : decode prog_10_method_41_code 32 = .ok (.iload_n 1, 1) := by decide +kernel
theorem d_M_members_33 : decode prog_10_method_41_code 33 = .ok (.if_icmp .ne 9, 3) := by decide +kernel
theorem d_M_members_36 : decode prog_10_method_41_code 36 = .ok (.iload_n 2, 1) := by decide +kernel
theorem d_M_members_37 : decode prog_10_method_41_code 37 = .ok (.iconst 1, 1) := by decide +kernel
theorem d_M_members_38 : decode prog_10_method_41_code 38 = .ok (.iadd, 1) := by decide +kernel
theorem d_M_members_39 : decode prog_10_method_41_code 39 = .ok (.goto 4, 3) := by decide +kernel
theorem d_M_members_42 : decode prog_10_method_41_code 42 = .ok (.iload_n 2, 1) := by decide +kernel
theorem d_M_members_43 : decode prog_10_method_41_code 43 = .ok (.istore_n 2, 1) := by decide +kernel
theorem d_M_members_44 : decode prog_10_method_41_code 44 = .ok (.iinc 3 1, 3) := by decide +kernel
theorem d_M_members_47 : decode prog_10_method_41_code 47 = .ok (.goto (-29), 3) := by decide +kernel
theorem d_M_members_50 : decode prog_10_method_41_code 50 = .ok (.iload_n 1, 1) := by decide +kernel
theorem d_M_members_51 : decode prog_10_method_41_code 51 = .ok (.ifCond .ge 7, 3) := by decide +kernel
theorem d_M_members_54 : decode prog_10_method_41_code 54 = .ok (.iconst (-1), 1) := by decide +kernel
theorem d_M_members_55 : decode prog_10_method_41_code 55 = .ok (.goto 4, 3) := by decide +kernel
theorem d_M_members_58 : decode prog_10_method_41_code 58 = .ok (.iload_n 2, 1) := by decide +kernel
theorem d_M_members_59 : decode prog_10_method_41_code 59 = .ok (.ireturn, 1) := by decide +kernel
theorem d_M_cost_0 : decode prog_10_method_46_code 0 = .ok (.aload_n 0, 1) := by decide +kernel
theorem d_M_cost_1 : decode prog_10_method_46_code 1 = .ok (.invokevirtual 196, 3) := by decide +kernel
theorem d_M_cost_4 : decode prog_10_method_46_code 4 = .ok (.istore_n 1, 1) := by decide +kernel
theorem d_M_cost_5 : decode prog_10_method_46_code 5 = .ok (.aload_n 0, 1) := by decide +kernel
theorem d_M_cost_6 : decode prog_10_method_46_code 6 = .ok (.getfield 72, 3) := by decide +kernel
theorem d_M_cost_9 : decode prog_10_method_46_code 9 = .ok (.ifCond .le 5, 3) := by decide +kernel
theorem d_M_cost_12 : decode prog_10_method_46_code 12 = .ok (.lconst 0, 1) := by decide +kernel
theorem d_M_cost_13 : decode prog_10_method_46_code 13 = .ok (.lreturn, 1) := by decide +kernel
theorem d_M_cost_14 : decode prog_10_method_46_code 14 = .ok (.iload_n 1, 1) := by decide +kernel
theorem d_M_cost_15 : decode prog_10_method_46_code 15 = .ok (.ifCond .ge 7, 3) := by decide +kernel
theorem d_M_cost_18 : decode prog_10_method_46_code 18 = .ok (.ldc2_w 223, 3) := by decide +kernel
theorem d_M_cost_21 : decode prog_10_method_46_code 21 = .ok (.lreturn, 1) := by decide +kernel
theorem d_M_cost_22 : decode prog_10_method_46_code 22 = .ok (.aload_n 0, 1) := by decide +kernel
theorem d_M_cost_23 : decode prog_10_method_46_code 23 = .ok (.invokevirtual 225, 3) := by decide +kernel
theorem d_M_cost_26 : decode prog_10_method_46_code 26 = .ok (.aload_n 0, 1) := by decide +kernel
theorem d_M_cost_27 : decode prog_10_method_46_code 27 = .ok (.getfield 59, 3) := by decide +kernel
theorem d_M_cost_30 : decode prog_10_method_46_code 30 = .ok (.iload_n 1, 1) := by decide +kernel
theorem d_M_cost_31 : decode prog_10_method_46_code 31 = .ok (.laload, 1) := by decide +kernel
theorem d_M_cost_32 : decode prog_10_method_46_code 32 = .ok (.ldc2_w 199, 3) := by decide +kernel
theorem d_M_cost_35 : decode prog_10_method_46_code 35 = .ok (.lcmp, 1) := by decide +kernel
theorem d_M_cost_36 : decode prog_10_method_46_code 36 = .ok (.ifCond .le 9, 3) := by decide +kernel
theorem d_M_cost_39 : decode prog_10_method_46_code 39 = .ok (.ldc2_w 228, 3) := by decide +kernel
theorem d_M_cost_42 : decode prog_10_method_46_code 42 = .ok (.goto 9, 3) := by decide +kernel
theorem d_M_cost_45 : decode prog_10_method_46_code 45 = .ok (.aload_n 0, 1) := by decide +kernel
theorem d_M_cost_46 : decode prog_10_method_46_code 46 = .ok (.getfield 59, 3) := by decide +kernel
theorem d_M_cost_49 : decode prog_10_method_46_code 49 = .ok (.iload_n 1, 1) := by decide +kernel
theorem d_M_cost_50 : decode prog_10_method_46_code 50 = .ok (.laload, 1) := by decide +kernel
theorem d_M_cost_51 : decode prog_10_method_46_code 51 = .ok (.lreturn, 1) := by decide +kernel
theorem d_M_best_0 : decode prog_10_method_47_code 0 = .ok (.aload_n 0, 1) := by decide +kernel
theorem d_M_best_1 : decode prog_10_method_47_code 1 = .ok (.invokevirtual 196, 3) := by decide +kernel
theorem d_M_best_4 : decode prog_10_method_47_code 4 = .ok (.istore_n 1, 1) := by decide +kernel
theorem d_M_best_5 : decode prog_10_method_47_code 5 = .ok (.aload_n 0, 1) := by decide +kernel
theorem d_M_best_6 : decode prog_10_method_47_code 6 = .ok (.getfield 72, 3) := by decide +kernel
theorem d_M_best_9 : decode prog_10_method_47_code 9 = .ok (.ifCond .le 5, 3) := by decide +kernel
theorem d_M_best_12 : decode prog_10_method_47_code 12 = .ok (.iconst 0, 1) := by decide +kernel
theorem d_M_best_13 : decode prog_10_method_47_code 13 = .ok (.ireturn, 1) := by decide +kernel
theorem d_M_best_14 : decode prog_10_method_47_code 14 = .ok (.iload_n 1, 1) := by decide +kernel
theorem d_M_best_15 : decode prog_10_method_47_code 15 = .ok (.ifCond .ge 5, 3) := by decide +kernel
theorem d_M_best_18 : decode prog_10_method_47_code 18 = .ok (.iconst (-1), 1) := by decide +kernel
theorem d_M_best_19 : decode prog_10_method_47_code 19 = .ok (.ireturn, 1) := by decide +kernel
theorem d_M_best_20 : decode prog_10_method_47_code 20 = .ok (.aload_n 0, 1) := by decide +kernel
theorem d_M_best_21 : decode prog_10_method_47_code 21 = .ok (.invokevirtual 225, 3) := by decide +kernel
theorem d_M_best_24 : decode prog_10_method_47_code 24 = .ok (.aload_n 0, 1) := by decide +kernel
theorem d_M_best_25 : decode prog_10_method_47_code 25 = .ok (.getfield 59, 3) := by decide +kernel
theorem d_M_best_28 : decode prog_10_method_47_code 28 = .ok (.iload_n 1, 1) := by decide +kernel
theorem d_M_best_29 : decode prog_10_method_47_code 29 = .ok (.laload, 1) := by decide +kernel
theorem d_M_best_30 : decode prog_10_method_47_code 30 = .ok (.ldc2_w 199, 3) := by decide +kernel
theorem d_M_best_33 : decode prog_10_method_47_code 33 = .ok (.lcmp, 1) := by decide +kernel
theorem d_M_best_34 : decode prog_10_method_47_code 34 = .ok (.ifCond .le 6, 3) := by decide +kernel
theorem d_M_best_37 : decode prog_10_method_47_code 37 = .ok (.bipush (-3), 2) := by decide +kernel
theorem d_M_best_39 : decode prog_10_method_47_code 39 = .ok (.ireturn, 1) := by decide +kernel
theorem d_M_best_40 : decode prog_10_method_47_code 40 = .ok (.aload_n 0, 1) := by decide +kernel
theorem d_M_best_41 : decode prog_10_method_47_code 41 = .ok (.getfield 63, 3) := by decide +kernel
theorem d_M_best_44 : decode prog_10_method_47_code 44 = .ok (.iload_n 1, 1) := by decide +kernel
theorem d_M_best_45 : decode prog_10_method_47_code 45 = .ok (.laload, 1) := by decide +kernel
theorem d_M_best_46 : decode prog_10_method_47_code 46 = .ok (.ldc2_w 214, 3) := by decide +kernel
theorem d_M_best_49 : decode prog_10_method_47_code 49 = .ok (.lcmp, 1) := by decide +kernel
theorem d_M_best_50 : decode prog_10_method_47_code 50 = .ok (.ifCond .le 6, 3) := by decide +kernel
theorem d_M_best_53 : decode prog_10_method_47_code 53 = .ok (.bipush (-4), 2) := by decide +kernel
theorem d_M_best_55 : decode prog_10_method_47_code 55 = .ok (.ireturn, 1) := by decide +kernel
theorem d_M_best_56 : decode prog_10_method_47_code 56 = .ok (.aload_n 0, 1) := by decide +kernel
theorem d_M_best_57 : decode prog_10_method_47_code 57 = .ok (.aload_n 0, 1) := by decide +kernel
theorem d_M_best_58 : decode prog_10_method_47_code 58 = .ok (.getfield 63, 3) := by decide +kernel
theorem d_M_best_61 : decode prog_10_method_47_code 61 = .ok (.iload_n 1, 1) := by decide +kernel
theorem d_M_best_62 : decode prog_10_method_47_code 62 = .ok (.laload, 1) := by decide +kernel
theorem d_M_best_63 : decode prog_10_method_47_code 63 = .ok (.l2i, 1) := by decide +kernel
theorem d_M_best_64 : decode prog_10_method_47_code 64 = .ok (.putfield 79, 3) := by decide +kernel
theorem d_M_best_67 : decode prog_10_method_47_code 67 = .ok (.iconst 0, 1) := by decide +kernel
theorem d_M_best_68 : decode prog_10_method_47_code 68 = .ok (.istore_n 2, 1) := by decide +kernel
theorem d_M_best_69 : decode prog_10_method_47_code 69 = .ok (.iload_n 2, 1) := by decide +kernel
theorem d_M_best_70 : decode prog_10_method_47_code 70 = .ok (.aload_n 0, 1) := by decide +kernel
theorem d_M_best_71 : decode prog_10_method_47_code 71 = .ok (.getfield 79, 3) := by decide +kernel
theorem d_M_best_74 : decode prog_10_method_47_code 74 = .ok (.if_icmp .ge 26, 3) := by decide +kernel
theorem d_M_best_77 : decode prog_10_method_47_code 77 = .ok (.aload_n 0, 1) := by decide +kernel
theorem d_M_best_78 : decode prog_10_method_47_code 78 = .ok (.getfield 7, 3) := by decide +kernel
theorem d_M_best_81 : decode prog_10_method_47_code 81 = .ok (.iload_n 2, 1) := by decide +kernel
theorem d_M_best_82 : decode prog_10_method_47_code 82 = .ok (.aload_n 0, 1) := by decide +kernel
theorem d_M_best_83 : decode prog_10_method_47_code 83 = .ok (.getfield 66, 3) := by decide +kernel
theorem d_M_best_86 : decode prog_10_method_47_code 86 = .ok (.bipush 60, 2) := by decide +kernel
theorem d_M_best_88 : decode prog_10_method_47_code 88 = .ok (.iload_n 1, 1) := by decide +kernel
theorem d_M_best_89 : decode prog_10_method_47_code 89 = .ok (.imul, 1) := by decide +kernel
theorem d_M_best_90 : decode prog_10_method_47_code 90 = .ok (.iload_n 2, 1) := by decide +kernel
theorem d_M_best_91 : decode prog_10_method_47_code 91 = .ok (.iadd, 1) := by decide +kernel
theorem d_M_best_92 : decode prog_10_method_47_code 92 = .ok (.iaload, 1) := by decide +kernel
theorem d_M_best_93 : decode prog_10_method_47_code 93 = .ok (.iastore, 1) := by decide +kernel
theorem d_M_best_94 : decode prog_10_method_47_code 94 = .ok (.iinc 2 1, 3) := by decide +kernel
theorem d_M_best_97 : decode prog_10_method_47_code 97 = .ok (.goto (-28), 3) := by decide +kernel
theorem d_M_best_100 : decode prog_10_method_47_code 100 = .ok (.aload_n 0, 1) := by decide +kernel
theorem d_M_best_101 : decode prog_10_method_47_code 101 = .ok (.getfield 79, 3) := by decide +kernel
theorem d_M_best_104 : decode prog_10_method_47_code 104 = .ok (.ireturn, 1) := by decide +kernel
theorem d_M_close_0 : decode prog_10_method_23_code 0 = .ok (.iconst 1, 1) := by decide +kernel
theorem d_M_close_1 : decode prog_10_method_23_code 1 = .ok (.istore_n 1, 1) := by decide +kernel
theorem d_M_close_2 : decode prog_10_method_23_code 2 = .ok (.iload_n 1, 1) := by decide +kernel
theorem d_M_close_3 : decode prog_10_method_23_code 3 = .ok (.ifCond .eq 142, 3) := by decide +kernel
theorem d_M_close_6 : decode prog_10_method_23_code 6 = .ok (.iconst 0, 1) := by decide +kernel
theorem d_M_close_7 : decode prog_10_method_23_code 7 = .ok (.istore_n 1, 1) := by decide +kernel
theorem d_M_close_8 : decode prog_10_method_23_code 8 = .ok (.iconst 0, 1) := by decide +kernel
theorem d_M_close_9 : decode prog_10_method_23_code 9 = .ok (.istore_n 2, 1) := by decide +kernel
theorem d_M_close_10 : decode prog_10_method_23_code 10 = .ok (.iload_n 2, 1) := by decide +kernel
theorem d_M_close_11 : decode prog_10_method_23_code 11 = .ok (.aload_n 0, 1) := by decide +kernel
theorem d_M_close_12 : decode prog_10_method_23_code 12 = .ok (.getfield 119, 3) := by decide +kernel
theorem d_M_close_15 : decode prog_10_method_23_code 15 = .ok (.if_icmp .ge 127, 3) := by decide +kernel
theorem d_M_close_18 : decode prog_10_method_23_code 18 = .ok (.iload_n 1, 1) := by decide +kernel
theorem d_M_close_19 : decode prog_10_method_23_code 19 = .ok (.ifCond .ne 123, 3) := by decide +kernel
theorem d_M_close_22 : decode prog_10_method_23_code 22 = .ok (.iload_n 2, 1) := by decide +kernel
theorem d_M_close_23 : decode prog_10_method_23_code 23 = .ok (.iconst 1, 1) := by decide +kernel
theorem d_M_close_24 : decode prog_10_method_23_code 24 = .ok (.iadd, 1) := by decide +kernel
theorem d_M_close_25 : decode prog_10_method_23_code 25 = .ok (.istore_n 3, 1) := by decide +kernel
theorem d_M_close_26 : decode prog_10_method_23_code 26 = .ok (.iload_n 3, 1) := by decide +kernel
theorem d_M_close_27 : decode prog_10_method_23_code 27 = .ok (.aload_n 0, 1) := by decide +kernel
theorem d_M_close_28 : decode prog_10_method_23_code 28 = .ok (.getfield 119, 3) := by decide +kernel
theorem d_M_close_31 : decode prog_10_method_23_code 31 = .ok (.if_icmp .ge 105, 3) := by decide +kernel
theorem d_M_close_34 : decode prog_10_method_23_code 34 = .ok (.iload_n 1, 1) := by decide +kernel
theorem d_M_close_35 : decode prog_10_method_23_code 35 = .ok (.ifCond .ne 101, 3) := by decide +kernel
theorem d_M_close_38 : decode prog_10_method_23_code 38 = .ok (.aload_n 0, 1) := by decide +kernel
theorem d_M_close_39 : decode prog_10_method_23_code 39 = .ok (.getfield 23, 3) := by decide +kernel
theorem d_M_close_42 : decode prog_10_method_23_code 42 = .ok (.iload_n 2, 1) := by decide +kernel
theorem d_M_close_43 : decode prog_10_method_23_code 43 = .ok (.iaload, 1) := by decide +kernel
theorem d_M_close_44 : decode prog_10_method_23_code 44 = .ok (.aload_n 0, 1) := by decide +kernel
theorem d_M_close_45 : decode prog_10_method_23_code 45 = .ok (.getfield 23, 3) := by decide +kernel
theorem d_M_close_48 : decode prog_10_method_23_code 48 = .ok (.iload_n 3, 1) := by decide +kernel
theorem d_M_close_49 : decode prog_10_method_23_code 49 = .ok (.iaload, 1) := by decide +kernel
theorem d_M_close_50 : decode prog_10_method_23_code 50 = .ok (.if_icmp .ne 53, 3) := by decide +kernel
theorem d_M_close_53 : decode prog_10_method_23_code 53 = .ok (.aload_n 0, 1) := by decide +kernel
theorem d_M_close_54 : decode prog_10_method_23_code 54 = .ok (.aload_n 0, 1) := by decide +kernel
theorem d_M_close_55 : decode prog_10_method_23_code 55 = .ok (.getfield 26, 3) := by decide +kernel
theorem d_M_close_58 : decode prog_10_method_23_code 58 = .ok (.iload_n 2, 1) := by decide +kernel
theorem d_M_close_59 : decode prog_10_method_23_code 59 = .ok (.iaload, 1) := by decide +kernel
theorem d_M_close_60 : decode prog_10_method_23_code 60 = .ok (.invokevirtual 143, 3) := by decide +kernel
theorem d_M_close_63 : decode prog_10_method_23_code 63 = .ok (.aload_n 0, 1) := by decide +kernel
theorem d_M_close_64 : decode prog_10_method_23_code 64 = .ok (.aload_n 0, 1) := by decide +kernel
theorem d_M_close_65 : decode prog_10_method_23_code 65 = .ok (.getfield 26, 3) := by decide +kernel
theorem d_M_close_68 : decode prog_10_method_23_code 68 = .ok (.iload_n 3, 1) := by decide +kernel
theorem d_M_close_69 : decode prog_10_method_23_code 69 = .ok (.iaload, 1) := by decide +kernel
theorem d_M_close_70 : decode prog_10_method_23_code 70 = .ok (.invokevirtual 143, 3) := by decide +kernel
theorem d_M_close_73 : decode prog_10_method_23_code 73 = .ok (.if_icmp .ne 30, 3) := by decide +kernel
theorem d_M_close_76 : decode prog_10_method_23_code 76 = .ok (.aload_n 0, 1) := by decide +kernel
theorem d_M_close_77 : decode prog_10_method_23_code 77 = .ok (.aload_n 0, 1) := by decide +kernel
theorem d_M_close_78 : decode prog_10_method_23_code 78 = .ok (.getfield 29, 3) := by decide +kernel
theorem d_M_close_81 : decode prog_10_method_23_code 81 = .ok (.iload_n 2, 1) := by decide +kernel
theorem d_M_close_82 : decode prog_10_method_23_code 82 = .ok (.iaload, 1) := by decide +kernel
theorem d_M_close_83 : decode prog_10_method_23_code 83 = .ok (.invokevirtual 143, 3) := by decide +kernel
theorem d_M_close_86 : decode prog_10_method_23_code 86 = .ok (.aload_n 0, 1) := by decide +kernel
theorem d_M_close_87 : decode prog_10_method_23_code 87 = .ok (.aload_n 0, 1) := by decide +kernel
theorem d_M_close_88 : decode prog_10_method_23_code 88 = .ok (.getfield 29, 3) := by decide +kernel
theorem d_M_close_91 : decode prog_10_method_23_code 91 = .ok (.iload_n 3, 1) := by decide +kernel
theorem d_M_close_92 : decode prog_10_method_23_code 92 = .ok (.iaload, 1) := by decide +kernel
theorem d_M_close_93 : decode prog_10_method_23_code 93 = .ok (.invokevirtual 143, 3) := by decide +kernel
theorem d_M_close_96 : decode prog_10_method_23_code 96 = .ok (.if_icmp .ne 7, 3) := by decide +kernel
theorem d_M_close_99 : decode prog_10_method_23_code 99 = .ok (.iconst 1, 1) := by decide +kernel
theorem d_M_close_100 : decode prog_10_method_23_code 100 = .ok (.goto 4, 3) := by decide +kernel
theorem d_M_close_103 : decode prog_10_method_23_code 103 = .ok (.iconst 0, 1) := by decide +kernel
theorem d_M_close_104 : decode prog_10_method_23_code 104 = .ok (.istore_n 1, 1) := by decide +kernel
theorem d_M_close_105 : decode prog_10_method_23_code 105 = .ok (.iload_n 1, 1) := by decide +kernel
theorem d_M_close_106 : decode prog_10_method_23_code 106 = .ok (.ifCond .eq 24, 3) := by decide +kernel
theorem d_M_close_109 : decode prog_10_method_23_code 109 = .ok (.aload_n 0, 1) := by decide +kernel
theorem d_M_close_110 : decode prog_10_method_23_code 110 = .ok (.aload_n 0, 1) := by decide +kernel
theorem d_M_close_111 : decode prog_10_method_23_code 111 = .ok (.getfield 32, 3) := by decide +kernel
theorem d_M_close_114 : decode prog_10_method_23_code 114 = .ok (.iload_n 2, 1) := by decide +kernel
theorem d_M_close_115 : decode prog_10_method_23_code 115 = .ok (.iaload, 1) := by decide +kernel
theorem d_M_close_116 : decode prog_10_method_23_code 116 = .ok (.aload_n 0, 1) := by decide +kernel
theorem d_M_close_117 : decode prog_10_method_23_code 117 = .ok (.getfield 32, 3) := by decide +kernel
theorem d_M_close_120 : decode prog_10_method_23_code 120 = .ok (.iload_n 3, 1) := by decide +kernel
theorem d_M_close_121 : decode prog_10_method_23_code 121 = .ok (.iaload, 1) := by decide +kernel
theorem d_M_close_122 : decode prog_10_method_23_code 122 = .ok (.invokevirtual 146, 3) := by decide +kernel
theorem d_M_close_125 : decode prog_10_method_23_code 125 = .ok (.aload_n 0, 1) := by decide +kernel
theorem d_M_close_126 : decode prog_10_method_23_code 126 = .ok (.iload_n 3, 1) := by decide +kernel
theorem d_M_close_127 : decode prog_10_method_23_code 127 = .ok (.invokevirtual 150, 3) := by decide +kernel
theorem d_M_close_130 : decode prog_10_method_23_code 130 = .ok (.iinc 3 1, 3) := by decide +kernel
theorem d_M_close_133 : decode prog_10_method_23_code 133 = .ok (.goto (-107), 3) := by decide +kernel
theorem d_M_close_136 : decode prog_10_method_23_code 136 = .ok (.iinc 2 1, 3) := by decide +kernel
theorem d_M_close_139 : decode prog_10_method_23_code 139 = .ok (.goto (-129), 3) := by decide +kernel
theorem d_M_close_142 : decode prog_10_method_23_code 142 = .ok (.goto (-140), 3) := by decide +kernel
theorem d_M_close_145 : decode prog_10_method_23_code 145 = .ok (.aload_n 0, 1) := by decide +kernel
theorem d_M_close_146 : decode prog_10_method_23_code 146 = .ok (.invokevirtual 154, 3) := by decide +kernel
theorem d_M_close_149 : decode prog_10_method_23_code 149 = .ok (.return_, 1) := by decide +kernel
theorem d_M_renumber_0 : decode prog_10_method_24_code 0 = .ok (.iconst 0, 1) := by decide +kernel
theorem d_M_renumber_1 : decode prog_10_method_24_code 1 = .ok (.istore_n 1, 1) := by decide +kernel
theorem d_M_renumber_2 : decode prog_10_method_24_code 2 = .ok (.iload_n 1, 1) := by decide +kernel
theorem d_M_renumber_3 : decode prog_10_method_24_code 3 = .ok (.aload_n 0, 1) := by decide +kernel
theorem d_M_renumber_4 : decode prog_10_method_24_code 4 = .ok (.getfield 126, 3) := by decide +kernel
theorem d_M_renumber_7 : decode prog_10_method_24_code 7 = .ok (.if_icmp .ge 16, 3) := by decide +kernel
theorem d_M_renumber_10 : decode prog_10_method_24_code 10 = .ok (.aload_n 0, 1) := by decide +kernel
theorem d_M_renumber_11 : decode prog_10_method_24_code 11 = .ok (.getfield 38, 3) := by decide +kernel
theorem d_M_renumber_14 : decode prog_10_method_24_code 14 = .ok (.iload_n 1, 1) := by decide +kernel
theorem d_M_renumber_15 : decode prog_10_method_24_code 15 = .ok (.iconst (-1), 1) := by decide +kernel
theorem d_M_renumber_16 : decode prog_10_method_24_code 16 = .ok (.iastore, 1) := by decide +kernel
theorem d_M_renumber_17 : decode prog_10_method_24_code 17 = .ok (.iinc 1 1, 3) := by decide +kernel
theorem d_M_renumber_20 : decode prog_10_method_24_code 20 = .ok (.goto (-18), 3) := by decide +kernel
theorem d_M_renumber_23 : decode prog_10_method_24_code 23 = .ok (.iconst 0, 1) := by decide +kernel
theorem d_M_renumber_24 : decode prog_10_method_24_code 24 = .ok (.istore_n 1, 1) := by decide +kernel
theorem d_M_renumber_25 : decode prog_10_method_24_code 25 = .ok (.iconst 0, 1) := by decide +kernel
theorem d_M_renumber_26 : decode prog_10_method_24_code 26 = .ok (.istore_n 2, 1) := by decide +kernel
theorem d_M_renumber_27 : decode prog_10_method_24_code 27 = .ok (.iload_n 2, 1) := by decide +kernel
theorem d_M_renumber_28 : decode prog_10_method_24_code 28 = .ok (.aload_n 0, 1) := by decide +kernel
theorem d_M_renumber_29 : decode prog_10_method_24_code 29 = .ok (.getfield 119, 3) := by decide +kernel
theorem d_M_renumber_32 : decode prog_10_method_24_code 32 = .ok (.if_icmp .ge 40, 3) := by decide +kernel
theorem d_M_renumber_35 : decode prog_10_method_24_code 35 = .ok (.aload_n 0, 1) := by decide +kernel
theorem d_M_renumber_36 : decode prog_10_method_24_code 36 = .ok (.getfield 35, 3) := by decide +kernel
theorem d_M_renumber_39 : decode prog_10_method_24_code 39 = .ok (.aload_n 0, 1) := by decide +kernel
theorem d_M_renumber_40 : decode prog_10_method_24_code 40 = .ok (.getfield 32, 3) := by decide +kernel
theorem d_M_renumber_43 : decode prog_10_method_24_code 43 = .ok (.iload_n 2, 1) := by decide +kernel
theorem d_M_renumber_44 : decode prog_10_method_24_code 44 = .ok (.iaload, 1) := by decide +kernel
theorem d_M_renumber_45 : decode prog_10_method_24_code 45 = .ok (.iaload, 1) := by decide +kernel
theorem d_M_renumber_46 : decode prog_10_method_24_code 46 = .ok (.istore_n 3, 1) := by decide +kernel
theorem d_M_renumber_47 : decode prog_10_method_24_code 47 = .ok (.aload_n 0, 1) := by decide +kernel
theorem d_M_renumber_48 : decode prog_10_method_24_code 48 = .ok (.getfield 38, 3) := by decide +kernel
theorem d_M_renumber_51 : decode prog_10_method_24_code 51 = .ok (.iload_n 3, 1) := by decide +kernel
theorem d_M_renumber_52 : decode prog_10_method_24_code 52 = .ok (.iaload, 1) := by decide +kernel
theorem d_M_renumber_53 : decode prog_10_method_24_code 53 = .ok (.ifCond .ge 13, 3) := by decide +kernel
theorem d_M_renumber_56 : decode prog_10_method_24_code 56 = .ok (.aload_n 0, 1) := by decide +kernel
theorem d_M_renumber_57 : decode prog_10_method_24_code 57 = .ok (.getfield 38, 3) := by decide +kernel
theorem d_M_renumber_60 : decode prog_10_method_24_code 60 = .ok (.iload_n 3, 1) := by decide +kernel
theorem d_M_renumber_61 : decode prog_10_method_24_code 61 = .ok (.iload_n 1, 1) := by decide +kernel
theorem d_M_renumber_62 : decode prog_10_method_24_code 62 = .ok (.iastore, 1) := by decide +kernel
theorem d_M_renumber_63 : decode prog_10_method_24_code 63 = .ok (.iinc 1 1, 3) := by decide +kernel
theorem d_M_renumber_66 : decode prog_10_method_24_code 66 = .ok (.iinc 2 1, 3) := by decide +kernel
theorem d_M_renumber_69 : decode prog_10_method_24_code 69 = .ok (.goto (-42), 3) := by decide +kernel
theorem d_M_renumber_72 : decode prog_10_method_24_code 72 = .ok (.iconst 0, 1) := by decide +kernel
theorem d_M_renumber_73 : decode prog_10_method_24_code 73 = .ok (.istore_n 2, 1) := by decide +kernel
theorem d_M_renumber_74 : decode prog_10_method_24_code 74 = .ok (.iload_n 2, 1) := by decide +kernel
theorem d_M_renumber_75 : decode prog_10_method_24_code 75 = .ok (.aload_n 0, 1) := by decide +kernel
theorem d_M_renumber_76 : decode prog_10_method_24_code 76 = .ok (.getfield 119, 3) := by decide +kernel
theorem d_M_renumber_79 : decode prog_10_method_24_code 79 = .ok (.if_icmp .ge 101, 3) := by decide +kernel
theorem d_M_renumber_82 : decode prog_10_method_24_code 82 = .ok (.aload_n 0, 1) := by decide +kernel
theorem d_M_renumber_83 : decode prog_10_method_24_code 83 = .ok (.getfield 32, 3) := by decide +kernel
theorem d_M_renumber_86 : decode prog_10_method_24_code 86 = .ok (.iload_n 2, 1) := by decide +kernel
theorem d_M_renumber_87 : decode prog_10_method_24_code 87 = .ok (.aload_n 0, 1) := by decide +kernel
theorem d_M_renumber_88 : decode prog_10_method_24_code 88 = .ok (.getfield 38, 3) := by decide +kernel
theorem d_M_renumber_91 : decode prog_10_method_24_code 91 = .ok (.aload_n 0, 1) := by decide +kernel
theorem d_M_renumber_92 : decode prog_10_method_24_code 92 = .ok (.getfield 35, 3) := by decide +kernel
theorem d_M_renumber_95 : decode prog_10_method_24_code 95 = .ok (.aload_n 0, 1) := by decide +kernel
theorem d_M_renumber_96 : decode prog_10_method_24_code 96 = .ok (.getfield 32, 3) := by decide +kernel
theorem d_M_renumber_99 : decode prog_10_method_24_code 99 = .ok (.iload_n 2, 1) := by decide +kernel
theorem d_M_renumber_100 : decode prog_10_method_24_code 100 = .ok (.iaload, 1) := by decide +kernel
theorem d_M_renumber_101 : decode prog_10_method_24_code 101 = .ok (.iaload, 1) := by decide +kernel
theorem d_M_renumber_102 : decode prog_10_method_24_code 102 = .ok (.iaload, 1) := by decide +kernel
theorem d_M_renumber_103 : decode prog_10_method_24_code 103 = .ok (.iastore, 1) := by decide +kernel
theorem d_M_renumber_104 : decode prog_10_method_24_code 104 = .ok (.aload_n 0, 1) := by decide +kernel
theorem d_M_renumber_105 : decode prog_10_method_24_code 105 = .ok (.getfield 26, 3) := by decide +kernel
theorem d_M_renumber_108 : decode prog_10_method_24_code 108 = .ok (.iload_n 2, 1) := by decide +kernel
theorem d_M_renumber_109 : decode prog_10_method_24_code 109 = .ok (.aload_n 0, 1) := by decide +kernel
theorem d_M_renumber_110 : decode prog_10_method_24_code 110 = .ok (.getfield 26, 3) := by decide +kernel
theorem d_M_renumber_113 : decode prog_10_method_24_code 113 = .ok (.iload_n 2, 1) := by decide +kernel
theorem d_M_renumber_114 : decode prog_10_method_24_code 114 = .ok (.iaload, 1) := by decide +kernel
theorem d_M_renumber_115 : decode prog_10_method_24_code 115 = .ok (.ifCond .ge 7, 3) := by decide +kernel
theorem d_M_renumber_118 : decode prog_10_method_24_code 118 = .ok (.iconst (-1), 1) := by decide +kernel
theorem d_M_renumber_119 : decode prog_10_method_24_code 119 = .ok (.goto 19, 3) := by decide +kernel
theorem d_M_renumber_122 : decode prog_10_method_24_code 122 = .ok (.aload_n 0, 1) := by decide +kernel
theorem d_M_renumber_123 : decode prog_10_method_24_code 123 = .ok (.getfield 38, 3) := by decide +kernel
theorem d_M_renumber_126 : decode prog_10_method_24_code 126 = .ok (.aload_n 0, 1) := by decide +kernel
theorem d_M_renumber_127 : decode prog_10_method_24_code 127 = .ok (.getfield 35, 3) := by decide +kernel
theorem d_M_renumber_130 : decode prog_10_method_24_code 130 = .ok (.aload_n 0, 1) := by decide +kernel
theorem d_M_renumber_131 : decode prog_10_method_24_code 131 = .ok (.getfield 26, 3) := by decide +kernel
theorem d_M_renumber_134 : decode prog_10_method_24_code 134 = .ok (.iload_n 2, 1) := by decide +kernel
theorem d_M_renumber_135 : decode prog_10_method_24_code 135 = .ok (.iaload, 1) := by decide +kernel
theorem d_M_renumber_136 : decode prog_10_method_24_code 136 = .ok (.iaload, 1) := by decide +kernel
theorem d_M_renumber_137 : decode prog_10_method_24_code 137 = .ok (.iaload, 1) := by decide +kernel
theorem d_M_renumber_138 : decode prog_10_method_24_code 138 = .ok (.iastore, 1) := by decide +kernel
theorem d_M_renumber_139 : decode prog_10_method_24_code 139 = .ok (.aload_n 0, 1) := by decide +kernel
theorem d_M_renumber_140 : decode prog_10_method_24_code 140 = .ok (.getfield 29, 3) := by decide +kernel
theorem d_M_renumber_143 : decode prog_10_method_24_code 143 = .ok (.iload_n 2, 1) := by decide +kernel
theorem d_M_renumber_144 : decode prog_10_method_24_code 144 = .ok (.aload_n 0, 1) := by decide +kernel
theorem d_M_renumber_145 : decode prog_10_method_24_code 145 = .ok (.getfield 29, 3) := by decide +kernel
theorem d_M_renumber_148 : decode prog_10_method_24_code 148 = .ok (.iload_n 2, 1) := by decide +kernel
theorem d_M_renumber_149 : decode prog_10_method_24_code 149 = .ok (.iaload, 1) := by decide +kernel
theorem d_M_renumber_150 : decode prog_10_method_24_code 150 = .ok (.ifCond .ge 7, 3) := by decide +kernel
theorem d_M_renumber_153 : decode prog_10_method_24_code 153 = .ok (.iconst (-1), 1) := by decide +kernel
theorem d_M_renumber_154 : decode prog_10_method_24_code 154 = .ok (.goto 19, 3) := by decide +kernel
theorem d_M_renumber_157 : decode prog_10_method_24_code 157 = .ok (.aload_n 0, 1) := by decide +kernel
theorem d_M_renumber_158 : decode prog_10_method_24_code 158 = .ok (.getfield 38, 3) := by decide +kernel
theorem d_M_renumber_161 : decode prog_10_method_24_code 161 = .ok (.aload_n 0, 1) := by decide +kernel
theorem d_M_renumber_162 : decode prog_10_method_24_code 162 = .ok (.getfield 35, 3) := by decide +kernel
theorem d_M_renumber_165 : decode prog_10_method_24_code 165 = .ok (.aload_n 0, 1) := by decide +kernel
theorem d_M_renumber_166 : decode prog_10_method_24_code 166 = .ok (.getfield 29, 3) := by decide +kernel
theorem d_M_renumber_169 : decode prog_10_method_24_code 169 = .ok (.iload_n 2, 1) := by decide +kernel
theorem d_M_renumber_170 : decode prog_10_method_24_code 170 = .ok (.iaload, 1) := by decide +kernel
theorem d_M_renumber_171 : decode prog_10_method_24_code 171 = .ok (.iaload, 1) := by decide +kernel
theorem d_M_renumber_172 : decode prog_10_method_24_code 172 = .ok (.iaload, 1) := by decide +kernel
theorem d_M_renumber_173 : decode prog_10_method_24_code 173 = .ok (.iastore, 1) := by decide +kernel
theorem d_M_renumber_174 : decode prog_10_method_24_code 174 = .ok (.iinc 2 1, 3) := by decide +kernel
theorem d_M_renumber_177 : decode prog_10_method_24_code 177 = .ok (.goto (-103), 3) := by decide +kernel
theorem d_M_renumber_180 : decode prog_10_method_24_code 180 = .ok (.aload_n 0, 1) := by decide +kernel
theorem d_M_renumber_181 : decode prog_10_method_24_code 181 = .ok (.iload_n 1, 1) := by decide +kernel
theorem d_M_renumber_182 : decode prog_10_method_24_code 182 = .ok (.putfield 126, 3) := by decide +kernel
theorem d_M_renumber_185 : decode prog_10_method_24_code 185 = .ok (.iconst 0, 1) := by decide +kernel
theorem d_M_renumber_186 : decode prog_10_method_24_code 186 = .ok (.istore_n 2, 1) := by decide +kernel
theorem d_M_renumber_187 : decode prog_10_method_24_code 187 = .ok (.iload_n 2, 1) := by decide +kernel
theorem d_M_renumber_188 : decode prog_10_method_24_code 188 = .ok (.iload_n 1, 1) := by decide +kernel
theorem d_M_renumber_189 : decode prog_10_method_24_code 189 = .ok (.if_icmp .ge 16, 3) := by decide +kernel
theorem d_M_renumber_192 : decode prog_10_method_24_code 192 = .ok (.aload_n 0, 1) := by decide +kernel
theorem d_M_renumber_193 : decode prog_10_method_24_code 193 = .ok (.getfield 35, 3) := by decide +kernel
theorem d_M_renumber_196 : decode prog_10_method_24_code 196 = .ok (.iload_n 2, 1) := by decide +kernel
theorem d_M_renumber_197 : decode prog_10_method_24_code 197 = .ok (.iload_n 2, 1) := by decide +kernel
theorem d_M_renumber_198 : decode prog_10_method_24_code 198 = .ok (.iastore, 1) := by decide +kernel
theorem d_M_renumber_199 : decode prog_10_method_24_code 199 = .ok (.iinc 2 1, 3) := by decide +kernel
theorem d_M_renumber_202 : decode prog_10_method_24_code 202 = .ok (.goto (-15), 3) := by decide +kernel
theorem d_M_renumber_205 : decode prog_10_method_24_code 205 = .ok (.return_, 1) := by decide +kernel
end
section
set_option maxHeartbeats 4000000 in
set_option maxRecDepth 100000 in
theorem c_A_fill {sc : et_X} {h : Nat → et_MC} {n d k N : Nat} {f : Nat → Int32} {v : Int32} (hN : N < 1000) (hk : h k = .inl (0, N, .inl f)) : et_Cn sc Y_A_fill_II d [.ref k, .int v] h n 0 0 (fun r h' n' => r = .inl none ∧ n' = n ∧ (∃ g : Nat → Int32, h' = va_up h k (.inl (0, N, .inl g)) ∧ ∀ j, j < N → g j = v)) := by
  refine et_Cn.of 2 rfl rfl (by decide) mS_A_fill_II.1 ?_
  have loop : ∀ (t i : Nat) (g : Nat → Int32) (hh : Nat → et_MC), i + t = N → hh = va_up h k (.inl (0, N, .inl g)) → (∀ j, j < i → g j = v) → et_M sc Y_A_fill_II d 0 0 (fun r h' n' => r = .inl none ∧ n' = n ∧ (∃ g : Nat → Int32, h' = va_up h k (.inl (0, N, .inl g)) ∧ ∀ j, j < N → g j = v)) 5 [some (.ref k), some (.int v), some (.int (nI i)), some (.int (nI N))] [] hh n 0 0 := by
    intro t
    induction t with
    | zero =>
      intro i g hh hi he hg
      obtain rfl : i = N := by omega
      refine et_iload_n (i := 2) d_A_fill_II_5 rfl rfl ?_
      refine et_iload_n (i := 3) d_A_fill_II_6 rfl rfl ?_
      refine et_icmp_ge (tgt := 20) d_A_fill_II_7 (by decide) (fun _ => ?_) (fun q => absurd (nI_le (Nat.le_refl _) (by omega)) q)
      exact et_vret d_A_fill_II_20 rfl (Nat.le_refl _) (Nat.le_refl _) ⟨rfl, rfl, g, he, hg⟩
    | succ t ih =>
      intro i g hh hi he hg
      have hkk : hh k = .inl (0, N, .inl g) := by rw [he]; simp [va_up]
      refine et_iload_n (i := 2) d_A_fill_II_5 rfl rfl ?_
      refine et_iload_n (i := 3) d_A_fill_II_6 rfl rfl ?_
      refine et_icmp_ge (tgt := 20) d_A_fill_II_7 (by decide) (fun q => absurd q (nI_ge (by omega) (by omega))) (fun _ => ?_)
      refine et_aload_n (i := 0) d_A_fill_II_10 rfl rfl ?_
      refine et_iload_n (i := 2) d_A_fill_II_11 rfl rfl ?_
      refine et_iload_n (i := 1) d_A_fill_II_12 rfl rfl ?_
      refine et_iast d_A_fill_II_13 hkk (vp_in_nI (show i < N by omega) (by omega)) ?_
      refine et_iinc (lv' := [_, _, _, _]) d_A_fill_II_14 rfl (v := nI (i + 1)) (nI_1 i) (by decide) rfl rfl ?_
      refine et_goto (tgt := 5) d_A_fill_II_17 (by decide) ?_
      refine ih (i + 1) (upd g (nI i).toNatClampNeg v) _ (by omega) (by rw [he, bx_uu]) (fun j hj => ?_)
      rw [nI_clamp (by omega)]
      by_cases e : j = i
      · rw [e, pk_us]
      · rw [pk_un e]; exact hg j (by omega)
  refine et_iconst (v := 0) d_A_fill_II_0 (by decide) ?_
  refine et_istore_n (i := 2) (lv' := [_, _, _, _]) d_A_fill_II_1 rfl (by decide) rfl rfl ?_
  refine et_aload_n (i := 0) d_A_fill_II_2 rfl rfl ?_
  refine et_alen (v := nI N) d_A_fill_II_3 hk rfl ?_
  refine et_istore_n (i := 3) (lv' := [_, _, _, _]) d_A_fill_II_4 rfl (by decide) rfl rfl ?_
  exact loop N 0 f h (by omega) (by funext j; by_cases e : j = k <;> simp [va_up, e, hk]) (fun j hj => absurd hj (Nat.not_lt_zero j))
set_option maxHeartbeats 4000000 in
set_option maxRecDepth 100000 in
theorem c_T_init {sc : et_X} {h : Nat → et_MC} {d : Nat} (h1 : h 1 = .inr (4, [.null, .int 0, .int 0, .int 0])) : et_Cn sc Y_T_init d [.ref 1] h 2 1 60 (fun r h' n' => r = .inl none ∧ n' = 3 ∧ h' 1 = .inr (4, [.ref 2, .int 0, .int (-1), .int (-1)]) ∧ h' 2 = .inl (0, 60, .inl (fun _ => 0)) ∧ ∀ k, k ≠ 1 → k ≠ 2 → h' k = h k) := by
  refine et_Cn.of 0 rfl rfl (by decide) mI_T_init.1 ?_
  refine et_aload_n (i := 0) d_T_init_0 rfl rfl ?_
  refine et_objInit d_T_init_1 ml_T_3 ob_inst ob_code (Nat.le_of_ble_eq_true rfl) ?_
  refine et_aload_n (i := 0) d_T_init_4 rfl rfl ?_
  refine et_bipush (v := 60) d_T_init_5 (by decide) ?_
  refine et_newi (N := 60) d_T_init_7 rfl ac_int (by decide) (by decide) (by decide) (Nat.le_of_ble_eq_true rfl) (Nat.le_of_ble_eq_true rfl) ?_
  refine et_putF (ci := 4) 0 d_T_init_9 h1 rfl in_T ty_T nm_T (by decide) fl_T_9 rfl rfl rfl rfl (fun _ => rfl) (fun _ => rfl) (Nat.le_of_ble_eq_true rfl) (fs' := [_, _, _, _]) rfl ?_
  refine et_aload_n (i := 0) d_T_init_12 rfl rfl ?_
  refine et_iconst (v := 0) d_T_init_13 (by decide) ?_
  refine et_putf (ci := 4) 1 d_T_init_14 rfl rfl in_T ty_T nm_T (by decide) fl_T_15 rfl rfl (fun _ => rfl) (fun _ => rfl) (Nat.le_of_ble_eq_true rfl) (fs' := [_, _, _, _]) rfl ?_
  refine et_aload_n (i := 0) d_T_init_17 rfl rfl ?_
  refine et_iconst (v := (-1)) d_T_init_18 (by decide) ?_
  refine et_putf (ci := 4) 2 d_T_init_19 rfl rfl in_T ty_T nm_T (by decide) fl_T_19 rfl rfl (fun _ => rfl) (fun _ => rfl) (Nat.le_of_ble_eq_true rfl) (fs' := [_, _, _, _]) rfl ?_
  refine et_aload_n (i := 0) d_T_init_22 rfl rfl ?_
  refine et_iconst (v := (-1)) d_T_init_23 (by decide) ?_
  refine et_putf (ci := 4) 3 d_T_init_24 rfl rfl in_T ty_T nm_T (by decide) fl_T_22 rfl rfl (fun _ => rfl) (fun _ => rfl) (Nat.le_of_ble_eq_true rfl) (fs' := [_, _, _, _]) rfl ?_
  exact et_vret d_T_init_27 rfl (Nat.le_of_ble_eq_true rfl) (Nat.le_of_ble_eq_true rfl) ⟨rfl, rfl, rfl, rfl, fun k e1 e2 => by simp [va_up, e1, e2]⟩
set_option maxHeartbeats 4000000 in
set_option maxRecDepth 100000 in
theorem c_G_init {sc : et_X} {h : Nat → et_MC} {d : Nat} (h1 : h 3 = .inr (1, [.null, .null, .null, .null, .int 0, .int 0, .null, .null])) : et_Cn sc Y_G_init d [.ref 3] h 4 6 240 (fun r h' n' => r = .inl none ∧ n' = 10 ∧ h' 3 = .inr (1, [.ref 4, .ref 5, .ref 6, .ref 7, .int 0, .int 0, .ref 8, .ref 9]) ∧ (h' 4 = .inl (0, 40, .inl (fun _ => 0)) ∧ h' 5 = .inl (0, 40, .inl (fun _ => 0)) ∧ h' 6 = .inl (0, 40, .inl (fun _ => 0)) ∧ h' 7 = .inl (0, 40, .inl (fun _ => 0)) ∧ h' 8 = .inl (0, 40, .inl (fun _ => 0)) ∧ h' 9 = .inl (0, 40, .inl (fun _ => 0))) ∧ ∀ k, (k < 3 ∨ 9 < k) → h' k = h k) := by
  refine et_Cn.of 0 rfl rfl (by decide) mI_G_init.1 ?_
  refine et_aload_n (i := 0) d_G_init_0 rfl rfl ?_
  refine et_objInit d_G_init_1 ml_G_3 ob_inst ob_code (Nat.le_of_ble_eq_true rfl) ?_
  refine et_aload_n (i := 0) d_G_init_4 rfl rfl ?_
  refine et_bipush (v := 40) d_G_init_5 (by decide) ?_
  refine et_newi (N := 40) d_G_init_7 rfl ac_int (by decide) (by decide) (by decide) (Nat.le_of_ble_eq_true rfl) (Nat.le_of_ble_eq_true rfl) ?_
  refine et_putF (ci := 1) 0 d_G_init_9 h1 rfl in_G ty_G nm_G (by decide) fl_G_9 rfl rfl rfl rfl (fun _ => rfl) (fun _ => rfl) (Nat.le_of_ble_eq_true rfl) (fs' := [_, _, _, _, _, _, _, _]) rfl ?_
  refine et_aload_n (i := 0) d_G_init_12 rfl rfl ?_
  refine et_bipush (v := 40) d_G_init_13 (by decide) ?_
  refine et_newi (N := 40) d_G_init_15 rfl ac_int (by decide) (by decide) (by decide) (Nat.le_of_ble_eq_true rfl) (Nat.le_of_ble_eq_true rfl) ?_
  refine et_putF (ci := 1) 1 d_G_init_17 rfl rfl in_G ty_G nm_G (by decide) fl_G_15 rfl rfl rfl rfl (fun _ => rfl) (fun _ => rfl) (Nat.le_of_ble_eq_true rfl) (fs' := [_, _, _, _, _, _, _, _]) rfl ?_
  refine et_aload_n (i := 0) d_G_init_20 rfl rfl ?_
  refine et_bipush (v := 40) d_G_init_21 (by decide) ?_
  refine et_newi (N := 40) d_G_init_23 rfl ac_int (by decide) (by decide) (by decide) (Nat.le_of_ble_eq_true rfl) (Nat.le_of_ble_eq_true rfl) ?_
  refine et_putF (ci := 1) 2 d_G_init_25 rfl rfl in_G ty_G nm_G (by decide) fl_G_18 rfl rfl rfl rfl (fun _ => rfl) (fun _ => rfl) (Nat.le_of_ble_eq_true rfl) (fs' := [_, _, _, _, _, _, _, _]) rfl ?_
  refine et_aload_n (i := 0) d_G_init_28 rfl rfl ?_
  refine et_bipush (v := 40) d_G_init_29 (by decide) ?_
  refine et_newi (N := 40) d_G_init_31 rfl ac_int (by decide) (by decide) (by decide) (Nat.le_of_ble_eq_true rfl) (Nat.le_of_ble_eq_true rfl) ?_
  refine et_putF (ci := 1) 3 d_G_init_33 rfl rfl in_G ty_G nm_G (by decide) fl_G_21 rfl rfl rfl rfl (fun _ => rfl) (fun _ => rfl) (Nat.le_of_ble_eq_true rfl) (fs' := [_, _, _, _, _, _, _, _]) rfl ?_
  refine et_aload_n (i := 0) d_G_init_36 rfl rfl ?_
  refine et_iconst (v := 0) d_G_init_37 (by decide) ?_
  refine et_putf (ci := 1) 4 d_G_init_38 rfl rfl in_G ty_G nm_G (by decide) fl_G_24 rfl rfl (fun _ => rfl) (fun _ => rfl) (Nat.le_of_ble_eq_true rfl) (fs' := [_, _, _, _, _, _, _, _]) rfl ?_
  refine et_aload_n (i := 0) d_G_init_41 rfl rfl ?_
  refine et_iconst (v := 0) d_G_init_42 (by decide) ?_
  refine et_putf (ci := 1) 5 d_G_init_43 rfl rfl in_G ty_G nm_G (by decide) fl_G_28 rfl rfl (fun _ => rfl) (fun _ => rfl) (Nat.le_of_ble_eq_true rfl) (fs' := [_, _, _, _, _, _, _, _]) rfl ?_
  refine et_aload_n (i := 0) d_G_init_46 rfl rfl ?_
  refine et_bipush (v := 40) d_G_init_47 (by decide) ?_
  refine et_newi (N := 40) d_G_init_49 rfl ac_int (by decide) (by decide) (by decide) (Nat.le_of_ble_eq_true rfl) (Nat.le_of_ble_eq_true rfl) ?_
  refine et_putF (ci := 1) 6 d_G_init_51 rfl rfl in_G ty_G nm_G (by decide) fl_G_31 rfl rfl rfl rfl (fun _ => rfl) (fun _ => rfl) (Nat.le_of_ble_eq_true rfl) (fs' := [_, _, _, _, _, _, _, _]) rfl ?_
  refine et_aload_n (i := 0) d_G_init_54 rfl rfl ?_
  refine et_bipush (v := 40) d_G_init_55 (by decide) ?_
  refine et_newi (N := 40) d_G_init_57 rfl ac_int (by decide) (by decide) (by decide) (Nat.le_of_ble_eq_true rfl) (Nat.le_of_ble_eq_true rfl) ?_
  refine et_putF (ci := 1) 7 d_G_init_59 rfl rfl in_G ty_G nm_G (by decide) fl_G_34 rfl rfl rfl rfl (fun _ => rfl) (fun _ => rfl) (Nat.le_of_ble_eq_true rfl) (fs' := [_, _, _, _, _, _, _, _]) rfl ?_
  exact et_vret d_G_init_62 rfl (Nat.le_of_ble_eq_true rfl) (Nat.le_of_ble_eq_true rfl) ⟨rfl, rfl, rfl, ⟨rfl, rfl, rfl, rfl, rfl, rfl⟩, fun k e => by simp [va_up, show k ≠ 3 by omega, show k ≠ 4 by omega, show k ≠ 5 by omega, show k ≠ 6 by omega, show k ≠ 7 by omega, show k ≠ 8 by omega, show k ≠ 9 by omega]⟩
set_option maxHeartbeats 4000000 in
set_option maxRecDepth 100000 in
theorem c_K_init {sc : et_X} {h : Nat → et_MC} {d : Nat} (h1 : h 10 = .inr (5, [.null, .null, .null])) : et_Cn sc Y_K_init d [.ref 10, .ref 3] h 11 2 63 (fun r h' n' => r = .inl none ∧ n' = 13 ∧ h' 10 = .inr (5, [.ref 11, .ref 3, .ref 12]) ∧ h' 11 = .inl (0, 3, .inl (fun _ => 0)) ∧ h' 12 = .inl (0, 60, .inl (fun _ => 0)) ∧ ∀ k, (k < 10 ∨ 12 < k) → h' k = h k) := by
  refine et_Cn.of 0 rfl rfl (by decide) mI_K_init.1 ?_
  refine et_aload_n (i := 0) d_K_init_0 rfl rfl ?_
  refine et_objInit d_K_init_1 ml_K_3 ob_inst ob_code (Nat.le_of_ble_eq_true rfl) ?_
  refine et_aload_n (i := 0) d_K_init_4 rfl rfl ?_
  refine et_iconst (v := 3) d_K_init_5 (by decide) ?_
  refine et_newi (N := 3) d_K_init_6 rfl ac_int (by decide) (by decide) (by decide) (Nat.le_of_ble_eq_true rfl) (Nat.le_of_ble_eq_true rfl) ?_
  refine et_putF (ci := 5) 0 d_K_init_8 h1 rfl in_K ty_K nm_K (by decide) fl_K_9 rfl rfl rfl rfl (fun _ => rfl) (fun _ => rfl) (Nat.le_of_ble_eq_true rfl) (fs' := [_, _, _]) rfl ?_
  refine et_aload_n (i := 0) d_K_init_11 rfl rfl ?_
  refine et_bipush (v := 60) d_K_init_12 (by decide) ?_
  refine et_newi (N := 60) d_K_init_14 rfl ac_int (by decide) (by decide) (by decide) (Nat.le_of_ble_eq_true rfl) (Nat.le_of_ble_eq_true rfl) ?_
  refine et_putF (ci := 5) 2 d_K_init_16 rfl rfl in_K ty_K nm_K (by decide) fl_K_15 rfl rfl rfl rfl (fun _ => rfl) (fun _ => rfl) (Nat.le_of_ble_eq_true rfl) (fs' := [_, _, _]) rfl ?_
  refine et_aload_n (i := 0) d_K_init_19 rfl rfl ?_
  refine et_aload_n (i := 1) d_K_init_20 rfl rfl ?_
  refine et_putF (ci := 5) 1 d_K_init_21 rfl rfl in_K ty_K nm_K (by decide) fl_K_18 rfl rfl rfl rfl (fun _ => rfl) (fun _ => rfl) (Nat.le_of_ble_eq_true rfl) (fs' := [_, _, _]) rfl ?_
  exact et_vret d_K_init_24 rfl (Nat.le_of_ble_eq_true rfl) (Nat.le_of_ble_eq_true rfl) ⟨rfl, rfl, rfl, rfl, rfl, fun k e => by simp [va_up, show k ≠ 10 by omega, show k ≠ 11 by omega, show k ≠ 12 by omega]⟩
set_option maxHeartbeats 4000000 in
set_option maxRecDepth 100000 in
theorem c_R_init {sc : et_X} {h : Nat → et_MC} {d : Nat} (h1 : h 13 = .inr (2, [.int 0, .null, .null, .null, .null, .null])) : et_Cn sc Y_R_init d [.ref 13, .ref 3, .ref 10] h 14 3 88 (fun r h' n' => r = .inl none ∧ n' = 17 ∧ h' 13 = .inr (2, [.int 0, .ref 3, .ref 10, .ref 14, .ref 15, .ref 16]) ∧ h' 14 = .inl (0, 7, .inl (fun _ => 0)) ∧ h' 15 = .inl (0, 40, .inl (fun _ => 0)) ∧ h' 16 = .inl (0, 41, .inl (fun _ => 0)) ∧ ∀ k, (k < 13 ∨ 16 < k) → h' k = h k) := by
  refine et_Cn.of 0 rfl rfl (by decide) mI_R_init.1 ?_
  refine et_aload_n (i := 0) d_R_init_0 rfl rfl ?_
  refine et_objInit d_R_init_1 ml_R_3 ob_inst ob_code (Nat.le_of_ble_eq_true rfl) ?_
  refine et_aload_n (i := 0) d_R_init_4 rfl rfl ?_
  refine et_iconst (v := 0) d_R_init_5 (by decide) ?_
  refine et_putf (ci := 2) 0 d_R_init_6 h1 rfl in_R ty_R nm_R (by decide) fl_R_9 rfl rfl (fun _ => rfl) (fun _ => rfl) (Nat.le_of_ble_eq_true rfl) (fs' := [_, _, _, _, _, _]) rfl ?_
  refine et_aload_n (i := 0) d_R_init_9 rfl rfl ?_
  refine et_bipush (v := 7) d_R_init_10 (by decide) ?_
  refine et_newi (N := 7) d_R_init_12 rfl ac_int (by decide) (by decide) (by decide) (Nat.le_of_ble_eq_true rfl) (Nat.le_of_ble_eq_true rfl) ?_
  refine et_putF (ci := 2) 3 d_R_init_14 rfl rfl in_R ty_R nm_R (by decide) fl_R_15 rfl rfl rfl rfl (fun _ => rfl) (fun _ => rfl) (Nat.le_of_ble_eq_true rfl) (fs' := [_, _, _, _, _, _]) rfl ?_
  refine et_aload_n (i := 0) d_R_init_17 rfl rfl ?_
  refine et_bipush (v := 40) d_R_init_18 (by decide) ?_
  refine et_newi (N := 40) d_R_init_20 rfl ac_int (by decide) (by decide) (by decide) (Nat.le_of_ble_eq_true rfl) (Nat.le_of_ble_eq_true rfl) ?_
  refine et_putF (ci := 2) 4 d_R_init_22 rfl rfl in_R ty_R nm_R (by decide) fl_R_19 rfl rfl rfl rfl (fun _ => rfl) (fun _ => rfl) (Nat.le_of_ble_eq_true rfl) (fs' := [_, _, _, _, _, _]) rfl ?_
  refine et_aload_n (i := 0) d_R_init_25 rfl rfl ?_
  refine et_bipush (v := 41) d_R_init_26 (by decide) ?_
  refine et_newi (N := 41) d_R_init_28 rfl ac_int (by decide) (by decide) (by decide) (Nat.le_of_ble_eq_true rfl) (Nat.le_of_ble_eq_true rfl) ?_
  refine et_putF (ci := 2) 5 d_R_init_30 rfl rfl in_R ty_R nm_R (by decide) fl_R_22 rfl rfl rfl rfl (fun _ => rfl) (fun _ => rfl) (Nat.le_of_ble_eq_true rfl) (fs' := [_, _, _, _, _, _]) rfl ?_
  refine et_aload_n (i := 0) d_R_init_33 rfl rfl ?_
  refine et_aload_n (i := 1) d_R_init_34 rfl rfl ?_
  refine et_putF (ci := 2) 1 d_R_init_35 rfl rfl in_R ty_R nm_R (by decide) fl_R_25 rfl rfl rfl rfl (fun _ => rfl) (fun _ => rfl) (Nat.le_of_ble_eq_true rfl) (fs' := [_, _, _, _, _, _]) rfl ?_
  refine et_aload_n (i := 0) d_R_init_38 rfl rfl ?_
  refine et_aload_n (i := 2) d_R_init_39 rfl rfl ?_
  refine et_putF (ci := 2) 2 d_R_init_40 rfl rfl in_R ty_R nm_R (by decide) fl_R_29 rfl rfl rfl rfl (fun _ => rfl) (fun _ => rfl) (Nat.le_of_ble_eq_true rfl) (fs' := [_, _, _, _, _, _]) rfl ?_
  exact et_vret d_R_init_43 rfl (Nat.le_of_ble_eq_true rfl) (Nat.le_of_ble_eq_true rfl) ⟨rfl, rfl, rfl, rfl, rfl, rfl, fun k e => by simp [va_up, show k ≠ 13 by omega, show k ≠ 14 by omega, show k ≠ 15 by omega, show k ≠ 16 by omega]⟩
set_option maxHeartbeats 4000000 in
set_option maxRecDepth 100000 in
theorem c_C_init {sc : et_X} {h : Nat → et_MC} {d : Nat} (h1 : h 17 = .inr (0, [.null, .null, .null, .null, .null, .null])) : et_Cn sc Y_C_init (d + 1) [.ref 17, .ref 3] h 18 45 2707 (fun r h' n' => r = .inl none ∧ n' = 63 ∧ h' 17 = .inr (0, [.ref 18, .ref 19, .ref 20, .ref 21, .ref 3, .ref 62]) ∧ (∃ g : Nat → Int32, h' 18 = .inl (0, 127, .inl g) ∧ ∀ j, j < 127 → g j = 1) ∧ h' 19 = .inl (1, 40, .inr (.inl (fun _ => 0))) ∧ h' 20 = .inl (1, 40, .inr (.inl (fun _ => 0))) ∧ h' 21 = .inl (4, 40, .inr (.inr (.inr (.inr (fun i => if i < 40 then some (22 + i) else none))))) ∧ (∀ i, i < 40 → h' (22 + i) = .inl (0, 60, .inl (fun _ => 0))) ∧ h' 62 = .inl (0, 60, .inl (fun _ => 0)) ∧ ∀ k, k < 17 → h' k = h k) := by
  refine et_Cn.of 0 rfl rfl (by decide) mI_C_init.1 ?_
  refine et_aload_n (i := 0) d_C_init_0 rfl rfl ?_
  refine et_objInit d_C_init_1 ml_C_3 ob_inst ob_code (Nat.le_of_ble_eq_true rfl) ?_
  refine et_aload_n (i := 0) d_C_init_4 rfl rfl ?_
  refine et_bipush (v := 127) d_C_init_5 (by decide) ?_
  refine et_newi (N := 127) d_C_init_7 rfl ac_int (by decide) (by decide) (by decide) (Nat.le_of_ble_eq_true rfl) (Nat.le_of_ble_eq_true rfl) ?_
  refine et_putF (ci := 0) 0 d_C_init_9 h1 rfl in_C ty_C nm_C (by decide) fl_C_9 rfl rfl rfl rfl (fun _ => rfl) (fun _ => rfl) (Nat.le_of_ble_eq_true rfl) (fs' := [_, _, _, _, _, _]) rfl ?_
  refine et_aload_n (i := 0) d_C_init_12 rfl rfl ?_
  refine et_bipush (v := 40) d_C_init_13 (by decide) ?_
  refine et_newl (N := 40) d_C_init_15 rfl ac_long (by decide) (by decide) (by decide) (Nat.le_of_ble_eq_true rfl) (Nat.le_of_ble_eq_true rfl) ?_
  refine et_putF (ci := 0) 1 d_C_init_17 rfl rfl in_C ty_C nm_C (by decide) fl_C_15 rfl rfl rfl rfl (fun _ => rfl) (fun _ => rfl) (Nat.le_of_ble_eq_true rfl) (fs' := [_, _, _, _, _, _]) rfl ?_
  refine et_aload_n (i := 0) d_C_init_20 rfl rfl ?_
  refine et_bipush (v := 40) d_C_init_21 (by decide) ?_
  refine et_newl (N := 40) d_C_init_23 rfl ac_long (by decide) (by decide) (by decide) (Nat.le_of_ble_eq_true rfl) (Nat.le_of_ble_eq_true rfl) ?_
  refine et_putF (ci := 0) 2 d_C_init_25 rfl rfl in_C ty_C nm_C (by decide) fl_C_19 rfl rfl rfl rfl (fun _ => rfl) (fun _ => rfl) (Nat.le_of_ble_eq_true rfl) (fs' := [_, _, _, _, _, _]) rfl ?_
  refine et_aload_n (i := 0) d_C_init_28 rfl rfl ?_
  refine et_bipush (v := 40) d_C_init_29 (by decide) ?_
  refine et_bipush (v := 60) d_C_init_31 (by decide) ?_
  refine et_multi (N := 40) (M := 60) d_C_init_33 cl_C_22 (by decide) (by decide) (by decide) (by decide) (by decide) (by decide) (Nat.le_of_ble_eq_true rfl) (Nat.le_of_ble_eq_true rfl) ?_
  refine et_putF (ci := 0) 3 d_C_init_37 rfl rfl in_C ty_C nm_C (by decide) fl_C_24 rfl rfl rfl rfl (fun _ => rfl) (fun _ => rfl) (Nat.le_of_ble_eq_true rfl) (fs' := [_, _, _, _, _, _]) rfl ?_
  refine et_aload_n (i := 0) d_C_init_40 rfl rfl ?_
  refine et_bipush (v := 60) d_C_init_41 (by decide) ?_
  refine et_newi (N := 60) d_C_init_43 rfl ac_int (by decide) (by decide) (by decide) (Nat.le_of_ble_eq_true rfl) (Nat.le_of_ble_eq_true rfl) ?_
  refine et_putF (ci := 0) 5 d_C_init_45 rfl rfl in_C ty_C nm_C (by decide) fl_C_27 rfl rfl rfl rfl (fun _ => rfl) (fun _ => rfl) (Nat.le_of_ble_eq_true rfl) (fs' := [_, _, _, _, _, _]) rfl ?_
  refine et_aload_n (i := 0) d_C_init_48 rfl rfl ?_
  refine et_aload_n (i := 1) d_C_init_49 rfl rfl ?_
  refine et_putF (ci := 0) 4 d_C_init_50 rfl rfl in_C ty_C nm_C (by decide) fl_C_30 rfl rfl rfl rfl (fun _ => rfl) (fun _ => rfl) (Nat.le_of_ble_eq_true rfl) (fs' := [_, _, _, _, _, _]) rfl ?_
  refine et_aload_n (i := 0) d_C_init_53 rfl rfl ?_
  refine et_getf (ci := 0) 0 d_C_init_54 rfl rfl in_C (by decide) fl_C_9 rfl ?_
  refine et_iconst (v := 1) d_C_init_57 (by decide) ?_
  refine et_invS mS_A_fill_II (As := [_, _]) rfl d_C_init_58 lk_C_34 len_A_fill_II (Nat.le_of_ble_eq_true rfl) (c_A_fill (N := 127) (by decide) rfl) (Nat.le_refl _) (Nat.le_of_ble_eq_true rfl) (Nat.le_of_ble_eq_true rfl) (fun v h' n' hp => ?_) (fun x h' n' hp => by cases hp.1)
  obtain ⟨hv, rfl, g, rfl, hg⟩ := hp
  cases hv
  refine et_vret d_C_init_61 rfl (Nat.le_of_ble_eq_true rfl) (Nat.le_of_ble_eq_true rfl) ⟨rfl, rfl, rfl, ⟨g, rfl, hg⟩, rfl, rfl, rfl, fun i hi => ?_, rfl, fun k hk => ?_⟩
  · have a1 : ∀ c, c < 22 ∨ 61 < c → 22 + i ≠ c := fun c hc => by omega
    have a2 : ¬ 22 + i < 21 := by omega
    have a3 : 22 + i < 21 + 1 + 40 := by omega
    simp [va_up, et_mh, a1 18 (by decide), a1 17 (by decide), a1 62 (by decide), a1 21 (by decide), a2, a3]
  · simp [va_up, et_mh, show k ≠ 18 by omega, show k ≠ 17 by omega, show k ≠ 62 by omega, show k < 21 by omega, show k ≠ 19 by omega, show k ≠ 20 by omega]
end
section
/-- the cells of a new object of the class -/
def et_E0 (h : Nat → et_MC) : Prop :=
  h 0 = .inr (6, [.ref 1, .ref 3, .ref 10, .ref 13, .ref 17, .ref 63, .int 0]) ∧ h 1 = .inr (4, [.ref 2, .int 0, .int (-1), .int (-1)]) ∧ h 2 = .inl (0, 60, .inl (fun _ => 0)) ∧
  h 3 = .inr (1, [.ref 4, .ref 5, .ref 6, .ref 7, .int 0, .int 0, .ref 8, .ref 9]) ∧ (h 4 = .inl (0, 40, .inl (fun _ => 0)) ∧ h 5 = .inl (0, 40, .inl (fun _ => 0)) ∧ h 6 = .inl (0, 40, .inl (fun _ => 0)) ∧ h 7 = .inl (0, 40, .inl (fun _ => 0)) ∧ h 8 = .inl (0, 40, .inl (fun _ => 0)) ∧ h 9 = .inl (0, 40, .inl (fun _ => 0))) ∧
  (h 10 = .inr (5, [.ref 11, .ref 3, .ref 12]) ∧ h 11 = .inl (0, 3, .inl (fun _ => 0)) ∧ h 12 = .inl (0, 60, .inl (fun _ => 0))) ∧
  (h 13 = .inr (2, [.int 0, .ref 3, .ref 10, .ref 14, .ref 15, .ref 16]) ∧ h 14 = .inl (0, 7, .inl (fun _ => 0)) ∧ h 15 = .inl (0, 40, .inl (fun _ => 0)) ∧ h 16 = .inl (0, 41, .inl (fun _ => 0))) ∧
  (h 17 = .inr (0, [.ref 18, .ref 19, .ref 20, .ref 21, .ref 3, .ref 62]) ∧ (∃ g : Nat → Int32, h 18 = .inl (0, 127, .inl g) ∧ ∀ j, j < 127 → g j = 1) ∧ h 19 = .inl (1, 40, .inr (.inl (fun _ => 0))) ∧ h 20 = .inl (1, 40, .inr (.inl (fun _ => 0))) ∧ h 21 = .inl (4, 40, .inr (.inr (.inr (.inr (fun i => if i < 40 then some (22 + i) else none))))) ∧ (∀ i, i < 40 → h (22 + i) = .inl (0, 60, .inl (fun _ => 0))) ∧ h 62 = .inl (0, 60, .inl (fun _ => 0))) ∧
  h 63 = .inl (3, 6, .inr (.inr (.inr (.inr (fun _ => none)))))
set_option maxHeartbeats 4000000 in
set_option maxRecDepth 100000 in
theorem c_E_init {sc : et_X} {h : Nat → et_MC} {d : Nat} (f0 : h 0 = .inr (6, [.null, .null, .null, .null, .null, .null, .int 0])) : et_Cn sc Y_E_init (d + 2) [.ref 0] h 1 63 3191 (fun r h' n' => r = .inl none ∧ n' = 64 ∧ et_E0 h') := by
  refine et_Cn.of 0 rfl rfl (by decide) mI_E_init.1 ?_
  refine et_aload_n (i := 0) d_E_init_0 rfl rfl ?_
  refine et_objInit d_E_init_1 ml_E_1 ob_inst ob_code (Nat.le_of_ble_eq_true rfl) ?_
  refine et_aload_n (i := 0) d_E_init_4 rfl rfl ?_
  refine et_new (ci := 4) (fs := [.null, .int 0, .int 0, .int 0]) (ty0 := ft_T) d_E_init_5 rfl in_T ty_T cl_E_7 ins_T ini_T (fun B j hj => by rcases (show j = 0 ∨ j = 1 ∨ j = 2 ∨ j = 3 by omega) with rfl | rfl | rfl | rfl <;> rfl) (Nat.le_of_ble_eq_true rfl) (Nat.le_of_ble_eq_true rfl) ?_
  refine et_dup d_E_init_8 rfl ?_
  refine et_invI mI_T_init (As := []) rfl d_E_init_9 lk_E_9 len_T_init (Nat.le_of_ble_eq_true rfl) (c_T_init (d := d) rfl) (by omega) (Nat.le_of_ble_eq_true rfl) (Nat.le_of_ble_eq_true rfl) (fun v ha n' hp => ?_) (fun x h' n' hp => by cases hp.1)
  obtain ⟨hv, rfl, a1, a2, fr⟩ := hp
  cases hv
  have f0 := (fr 0 (by decide) (by decide)).trans f0
  refine et_putF (ci := 6) 0 d_E_init_12 f0 rfl in_E ty_E nm_E (by decide) fl_E_10 rfl rfl rfl rfl (fun _ => rfl) (fun _ => rfl) (by decide) (fs' := [_, _, _, _, _, _, _]) rfl ?_
  refine et_aload_n (i := 0) d_E_init_15 rfl rfl ?_
  refine et_new (ci := 1) (fs := [.null, .null, .null, .null, .int 0, .int 0, .null, .null]) (ty0 := ft_G) d_E_init_16 rfl in_G ty_G cl_E_16 ins_G ini_G (fun B j hj => by rcases (show j = 0 ∨ j = 1 ∨ j = 2 ∨ j = 3 ∨ j = 4 ∨ j = 5 ∨ j = 6 ∨ j = 7 by omega) with rfl | rfl | rfl | rfl | rfl | rfl | rfl | rfl <;> rfl) (Nat.le_of_ble_eq_true rfl) (Nat.le_of_ble_eq_true rfl) ?_
  refine et_dup d_E_init_19 rfl ?_
  refine et_invI mI_G_init (As := []) rfl d_E_init_20 lk_E_18 len_G_init (Nat.le_of_ble_eq_true rfl) (c_G_init (d := d) rfl) (by omega) (Nat.le_of_ble_eq_true rfl) (Nat.le_of_ble_eq_true rfl) (fun v hb n' hp => ?_) (fun x h' n' hp => by cases hp.1)
  obtain ⟨hv, rfl, b3, ⟨b4, b5, b6, b7, b8, b9⟩, fr⟩ := hp
  cases hv
  have f0 := fr 0 (Or.inl (by decide))
  have a1 := (fr 1 (Or.inl (by decide))).trans a1
  have a2 := (fr 2 (Or.inl (by decide))).trans a2
  refine et_putF (ci := 6) 1 d_E_init_23 f0 rfl in_E ty_E nm_E (by decide) fl_E_19 rfl rfl rfl rfl (fun _ => rfl) (fun _ => rfl) (by decide) (fs' := [_, _, _, _, _, _, _]) rfl ?_
  refine et_aload_n (i := 0) d_E_init_26 rfl rfl ?_
  refine et_new (ci := 5) (fs := [.null, .null, .null]) (ty0 := ft_K) d_E_init_27 rfl in_K ty_K cl_E_23 ins_K ini_K (fun B j hj => by rcases (show j = 0 ∨ j = 1 ∨ j = 2 by omega) with rfl | rfl | rfl <;> rfl) (Nat.le_of_ble_eq_true rfl) (Nat.le_of_ble_eq_true rfl) ?_
  refine et_dup d_E_init_30 rfl ?_
  refine et_aload_n (i := 0) d_E_init_31 rfl rfl ?_
  refine et_getf (ci := 6) 1 d_E_init_32 rfl rfl in_E (by decide) fl_E_19 rfl ?_
  refine et_invI mI_K_init (As := [_]) rfl d_E_init_35 lk_E_25 len_K_init (Nat.le_of_ble_eq_true rfl) (c_K_init (d := d) rfl) (by omega) (Nat.le_of_ble_eq_true rfl) (Nat.le_of_ble_eq_true rfl) (fun v hc n' hp => ?_) (fun x h' n' hp => by cases hp.1)
  obtain ⟨hv, rfl, c10, c11, c12, fr⟩ := hp
  cases hv
  have f0 := fr 0 (Or.inl (by decide))
  have a1 := (fr 1 (Or.inl (by decide))).trans a1
  have a2 := (fr 2 (Or.inl (by decide))).trans a2
  have b3 := (fr 3 (Or.inl (by decide))).trans b3
  have b4 := (fr 4 (Or.inl (by decide))).trans b4
  have b5 := (fr 5 (Or.inl (by decide))).trans b5
  have b6 := (fr 6 (Or.inl (by decide))).trans b6
  have b7 := (fr 7 (Or.inl (by decide))).trans b7
  have b8 := (fr 8 (Or.inl (by decide))).trans b8
  have b9 := (fr 9 (Or.inl (by decide))).trans b9
  refine et_putF (ci := 6) 2 d_E_init_38 f0 rfl in_E ty_E nm_E (by decide) fl_E_28 rfl rfl rfl rfl (fun _ => rfl) (fun _ => rfl) (by decide) (fs' := [_, _, _, _, _, _, _]) rfl ?_
  refine et_aload_n (i := 0) d_E_init_41 rfl rfl ?_
  refine et_new (ci := 2) (fs := [.int 0, .null, .null, .null, .null, .null]) (ty0 := ft_R) d_E_init_42 rfl in_R ty_R cl_E_32 ins_R ini_R (fun B j hj => by rcases (show j = 0 ∨ j = 1 ∨ j = 2 ∨ j = 3 ∨ j = 4 ∨ j = 5 by omega) with rfl | rfl | rfl | rfl | rfl | rfl <;> rfl) (Nat.le_of_ble_eq_true rfl) (Nat.le_of_ble_eq_true rfl) ?_
  refine et_dup d_E_init_45 rfl ?_
  refine et_aload_n (i := 0) d_E_init_46 rfl rfl ?_
  refine et_getf (ci := 6) 1 d_E_init_47 rfl rfl in_E (by decide) fl_E_19 rfl ?_
  refine et_aload_n (i := 0) d_E_init_50 rfl rfl ?_
  refine et_getf (ci := 6) 2 d_E_init_51 rfl rfl in_E (by decide) fl_E_28 rfl ?_
  refine et_invI mI_R_init (As := [_, _]) rfl d_E_init_54 lk_E_34 len_R_init (Nat.le_of_ble_eq_true rfl) (c_R_init (d := d) rfl) (by omega) (Nat.le_of_ble_eq_true rfl) (Nat.le_of_ble_eq_true rfl) (fun v hd n' hp => ?_) (fun x h' n' hp => by cases hp.1)
  obtain ⟨hv, rfl, d13, d14, d15, d16, fr⟩ := hp
  cases hv
  have f0 := fr 0 (Or.inl (by decide))
  have a1 := (fr 1 (Or.inl (by decide))).trans a1
  have a2 := (fr 2 (Or.inl (by decide))).trans a2
  have b3 := (fr 3 (Or.inl (by decide))).trans b3
  have b4 := (fr 4 (Or.inl (by decide))).trans b4
  have b5 := (fr 5 (Or.inl (by decide))).trans b5
  have b6 := (fr 6 (Or.inl (by decide))).trans b6
  have b7 := (fr 7 (Or.inl (by decide))).trans b7
  have b8 := (fr 8 (Or.inl (by decide))).trans b8
  have b9 := (fr 9 (Or.inl (by decide))).trans b9
  have c10 := (fr 10 (Or.inl (by decide))).trans c10
  have c11 := (fr 11 (Or.inl (by decide))).trans c11
  have c12 := (fr 12 (Or.inl (by decide))).trans c12
  refine et_putF (ci := 6) 3 d_E_init_57 f0 rfl in_E ty_E nm_E (by decide) fl_E_37 rfl rfl rfl rfl (fun _ => rfl) (fun _ => rfl) (by decide) (fs' := [_, _, _, _, _, _, _]) rfl ?_
  refine et_aload_n (i := 0) d_E_init_60 rfl rfl ?_
  refine et_new (ci := 0) (fs := [.null, .null, .null, .null, .null, .null]) (ty0 := ft_C) d_E_init_61 rfl in_C ty_C cl_E_41 ins_C ini_C (fun B j hj => by rcases (show j = 0 ∨ j = 1 ∨ j = 2 ∨ j = 3 ∨ j = 4 ∨ j = 5 by omega) with rfl | rfl | rfl | rfl | rfl | rfl <;> rfl) (Nat.le_of_ble_eq_true rfl) (Nat.le_of_ble_eq_true rfl) ?_
  refine et_dup d_E_init_64 rfl ?_
  refine et_aload_n (i := 0) d_E_init_65 rfl rfl ?_
  refine et_getf (ci := 6) 1 d_E_init_66 rfl rfl in_E (by decide) fl_E_19 rfl ?_
  refine et_invI mI_C_init (As := [_]) rfl d_E_init_69 lk_E_43 len_C_init (Nat.le_of_ble_eq_true rfl) (c_C_init (d := d) rfl) (by omega) (Nat.le_of_ble_eq_true rfl) (Nat.le_of_ble_eq_true rfl) (fun v he n' hp => ?_) (fun x h' n' hp => by cases hp.1)
  obtain ⟨hv, rfl, e17, e18, e19, e20, e21, e22, e62, fr⟩ := hp
  cases hv
  have f0 := fr 0 (by decide)
  have a1 := (fr 1 (by decide)).trans a1
  have a2 := (fr 2 (by decide)).trans a2
  have b3 := (fr 3 (by decide)).trans b3
  have b4 := (fr 4 (by decide)).trans b4
  have b5 := (fr 5 (by decide)).trans b5
  have b6 := (fr 6 (by decide)).trans b6
  have b7 := (fr 7 (by decide)).trans b7
  have b8 := (fr 8 (by decide)).trans b8
  have b9 := (fr 9 (by decide)).trans b9
  have c10 := (fr 10 (by decide)).trans c10
  have c11 := (fr 11 (by decide)).trans c11
  have c12 := (fr 12 (by decide)).trans c12
  have d13 := (fr 13 (by decide)).trans d13
  have d14 := (fr 14 (by decide)).trans d14
  have d15 := (fr 15 (by decide)).trans d15
  have d16 := (fr 16 (by decide)).trans d16
  refine et_putF (ci := 6) 4 d_E_init_72 f0 rfl in_E ty_E nm_E (by decide) fl_E_44 rfl rfl rfl rfl (fun _ => rfl) (fun _ => rfl) (by decide) (fs' := [_, _, _, _, _, _, _]) rfl ?_
  refine et_aload_n (i := 0) d_E_init_75 rfl rfl ?_
  refine et_bipush (v := 6) d_E_init_76 (by decide) ?_
  refine et_anew (N := 6) d_E_init_78 cl_E_48 (by decide) (by decide) (by decide) (by decide) (Nat.le_of_ble_eq_true rfl) (Nat.le_of_ble_eq_true rfl) ?_
  refine et_putF (ci := 6) 5 d_E_init_81 rfl rfl in_E ty_E nm_E (by decide) fl_E_50 rfl rfl rfl rfl (fun _ => rfl) (fun _ => rfl) (by decide) (fs' := [_, _, _, _, _, _, _]) rfl ?_
  refine et_aload_n (i := 0) d_E_init_84 rfl rfl ?_
  refine et_iconst (v := 0) d_E_init_85 (by decide) ?_
  refine et_putf (ci := 6) 6 d_E_init_86 rfl rfl in_E ty_E nm_E (by decide) fl_E_54 rfl rfl (fun _ => rfl) (fun _ => rfl) (by decide) (fs' := [_, _, _, _, _, _, _]) rfl ?_
  refine et_vret d_E_init_89 rfl (Nat.le_of_ble_eq_true rfl) (Nat.le_of_ble_eq_true rfl) ⟨rfl, rfl, ?_⟩
  refine ⟨rfl, a1, a2, b3, ⟨b4, b5, b6, b7, b8, b9⟩, ⟨c10, c11, c12⟩, ⟨d13, d14, d15, d16⟩, ⟨e17, e18, e19, e20, e21, fun i hi => ?_, e62⟩, rfl⟩
  have z : ∀ c, c = 0 ∨ c = 63 → 22 + i ≠ c := fun c hc => by omega
  simp only [va_up, z 0 (Or.inl rfl), z 63 (Or.inr rfl), if_false]
  exact e22 i hi
end
section
set_option maxHeartbeats 4000000 in
set_option maxRecDepth 100000 in
theorem c_T_clear {sc : et_X} {h : Nat → et_MC} {d n : Nat} {sz mid wp : Int32} (h1 : h 1 = .inr (4, [.ref 2, .int sz, .int mid, .int wp])) : et_Cn sc Y_T_clear d [.ref 1] h n 0 0 (fun r h' n' => r = .inl none ∧ n' = n ∧ h' = va_up h 1 (.inr (4, [.ref 2, .int 0, .int mid, .int wp]))) := by
  refine et_Cn.of 0 rfl rfl (by decide) mV_T_clear.1 ?_
  refine et_aload_n (i := 0) d_T_clear_0 rfl rfl ?_
  refine et_iconst (v := 0) d_T_clear_1 (by decide) ?_
  refine et_putf (ci := 4) 1 d_T_clear_2 h1 rfl in_T ty_T nm_T (by decide) fl_T_15 rfl rfl (fun _ => rfl) (fun _ => rfl) (Nat.le_of_ble_eq_true rfl) (fs' := [_, _, _, _]) rfl ?_
  exact et_vret d_T_clear_5 rfl (Nat.le_of_ble_eq_true rfl) (Nat.le_of_ble_eq_true rfl) ⟨rfl, rfl, rfl⟩
set_option maxHeartbeats 4000000 in
set_option maxRecDepth 100000 in
theorem c0_T_firstWrong {sc : et_X} {h : Nat → et_MC} {d n : Nat} {z1 z2 : Int32} {mid wp : Int32} (h1 : h 1 = .inr (4, [.ref 2, .int 0, .int mid, .int wp])) : et_Cn sc Y_T_firstWrong d [.ref 1, .int z1, .int z2] h n 0 0 (fun r h' n' => r = .inl (some (.int 0)) ∧ n' = n ∧ h' = va_up h 1 (.inr (4, [.ref 2, .int 0, .int (-1), .int wp]))) := by
  refine et_Cn.of 3 rfl rfl (by decide) mV_T_firstWrong.1 ?_
  refine et_iconst (v := 1) d_T_firstWrong_0 (by decide) ?_
  refine et_istore_n (i := 3) (lv' := [_, _, _, _, _, _]) d_T_firstWrong_1 rfl (by decide) rfl rfl ?_
  refine et_aload_n (i := 0) d_T_firstWrong_2 rfl rfl ?_
  refine et_iconst (v := (-1)) d_T_firstWrong_3 (by decide) ?_
  refine et_putf (ci := 4) 2 d_T_firstWrong_4 h1 rfl in_T ty_T nm_T (by decide) fl_T_19 rfl rfl (fun _ => rfl) (fun _ => rfl) (Nat.le_of_ble_eq_true rfl) (fs' := [_, _, _, _]) rfl ?_
  refine et_iconst (v := 0) d_T_firstWrong_7 (by decide) ?_
  refine et_istore (lv' := [_, _, _, _, _, _]) d_T_firstWrong_8 (by decide) rfl rfl ?_
  refine et_iload d_T_firstWrong_10 rfl ?_
  refine et_aload_n (i := 0) d_T_firstWrong_12 rfl rfl ?_
  refine et_getf (ci := 4) 1 d_T_firstWrong_13 rfl rfl in_T (by decide) fl_T_15 rfl ?_
  refine et_icmp_ge (tgt := 108) d_T_firstWrong_16 (by decide) (fun _ => ?_) (fun q => absurd (by decide) q)
  refine et_iload_n (i := 3) d_T_firstWrong_108 rfl rfl ?_
  refine et_if_ne (tgt := 128) d_T_firstWrong_109 (by decide) (fun _ => ?_) (fun q => absurd q (by decide))
  refine et_iconst (v := 0) d_T_firstWrong_128 (by decide) ?_
  refine et_istore (lv' := [_, _, _, _, _, _]) d_T_firstWrong_129 (by decide) rfl rfl ?_
  refine et_iload d_T_firstWrong_131 rfl ?_
  refine et_if_eq (tgt := 140) d_T_firstWrong_133 (by decide) (fun _ => ?_) (fun q => absurd (by decide) q)
  refine et_aload_n (i := 0) d_T_firstWrong_140 rfl rfl ?_
  refine et_getf (ci := 4) 1 d_T_firstWrong_141 rfl rfl in_T (by decide) fl_T_15 rfl ?_
  exact et_iret d_T_firstWrong_144 rfl (Nat.le_of_ble_eq_true rfl) (Nat.le_of_ble_eq_true rfl) ⟨rfl, rfl, rfl⟩
set_option maxHeartbeats 4000000 in
set_option maxRecDepth 100000 in
theorem c_T_noteWrong {sc : et_X} {h : Nat → et_MC} {d n : Nat} {sz mid wp w : Int32} (hw : ¬ w = -1) (h1 : h 1 = .inr (4, [.ref 2, .int sz, .int mid, .int wp])) : et_Cn sc Y_T_noteWrong d [.ref 1, .int w] h n 0 0 (fun r h' n' => r = .inl (some (.int 0)) ∧ n' = n ∧ h' = va_up h 1 (.inr (4, [.ref 2, .int sz, .int mid, .int w]))) := by
  refine et_Cn.of 0 rfl rfl (by decide) mV_T_noteWrong.1 ?_
  refine et_iload_n (i := 1) d_T_noteWrong_0 rfl rfl ?_
  refine et_iconst (v := (-1)) d_T_noteWrong_1 (by decide) ?_
  refine et_icmp_ne (tgt := 7) d_T_noteWrong_2 (by decide) (fun _ => ?_) (fun q => absurd q hw)
  refine et_aload_n (i := 0) d_T_noteWrong_7 rfl rfl ?_
  refine et_iload_n (i := 1) d_T_noteWrong_8 rfl rfl ?_
  refine et_putf (ci := 4) 3 d_T_noteWrong_9 h1 rfl in_T ty_T nm_T (by decide) fl_T_22 rfl rfl (fun _ => rfl) (fun _ => rfl) (Nat.le_of_ble_eq_true rfl) (fs' := [_, _, _, _]) rfl ?_
  refine et_iconst (v := 0) d_T_noteWrong_12 (by decide) ?_
  exact et_zret d_T_noteWrong_13 rfl rfl (Nat.le_of_ble_eq_true rfl) (Nat.le_of_ble_eq_true rfl) ⟨rfl, rfl, rfl⟩
set_option maxHeartbeats 4000000 in
set_option maxRecDepth 100000 in
theorem c0_T_isTerm {sc : et_X} {h : Nat → et_MC} {d n : Nat} {mid wp : Int32} (h1 : h 1 = .inr (4, [.ref 2, .int 0, .int mid, .int wp])) : et_Cn sc Y_T_isTerm (d + 1) [.ref 1] h n 0 0 (fun r h' n' => r = .inl (some (.int 0)) ∧ n' = n ∧ ∀ k, k ≠ 1 → h' k = h k) := by
  refine et_Cn.of 0 rfl rfl (by decide) mV_T_isTerm.1 ?_
  refine et_aload_n (i := 0) d_T_isTerm_0 rfl rfl ?_
  refine et_aload_n (i := 0) d_T_isTerm_1 rfl rfl ?_
  refine et_iconst (v := 0) d_T_isTerm_2 (by decide) ?_
  refine et_iconst (v := 0) d_T_isTerm_3 (by decide) ?_
  refine et_invV mV_T_firstWrong (As := [_, _]) rfl d_T_isTerm_4 lk_T_37 len_T_firstWrong h1 rfl (Nat.le_of_ble_eq_true rfl) (c0_T_firstWrong (d := d) h1) (Nat.le_refl _) (Nat.le_of_ble_eq_true rfl) (Nat.le_of_ble_eq_true rfl) (fun v h' n' hp => ?_) (fun x h' n' hp => by cases hp.1)
  obtain ⟨hv, rfl, rfl⟩ := hp
  cases hv
  refine et_invV mV_T_noteWrong (As := [_]) rfl d_T_isTerm_7 lk_T_41 len_T_noteWrong rfl rfl (Nat.le_of_ble_eq_true rfl) (c_T_noteWrong (d := d) (by decide) rfl) (Nat.le_refl _) (Nat.le_of_ble_eq_true rfl) (Nat.le_of_ble_eq_true rfl) (fun v h' n' hp => ?_) (fun x h' n' hp => by cases hp.1)
  obtain ⟨hv, rfl, rfl⟩ := hp
  cases hv
  exact et_zret d_T_isTerm_10 rfl rfl (Nat.le_of_ble_eq_true rfl) (Nat.le_of_ble_eq_true rfl) ⟨rfl, rfl, fun k e => by simp [va_up, e]⟩
set_option maxHeartbeats 4000000 in
set_option maxRecDepth 100000 in
theorem c0_T_isEquation {sc : et_X} {h : Nat → et_MC} {d n : Nat} {mid wp : Int32} (h1 : h 1 = .inr (4, [.ref 2, .int 0, .int mid, .int wp])) : et_Cn sc Y_T_isEquation (d + 1) [.ref 1] h n 0 0 (fun r h' n' => r = .inl (some (.int 0)) ∧ n' = n ∧ ∀ k, k ≠ 1 → h' k = h k) := by
  refine et_Cn.of 0 rfl rfl (by decide) mV_T_isEquation.1 ?_
  refine et_aload_n (i := 0) d_T_isEquation_0 rfl rfl ?_
  refine et_aload_n (i := 0) d_T_isEquation_1 rfl rfl ?_
  refine et_iconst (v := 1) d_T_isEquation_2 (by decide) ?_
  refine et_iconst (v := 0) d_T_isEquation_3 (by decide) ?_
  refine et_invV mV_T_firstWrong (As := [_, _]) rfl d_T_isEquation_4 lk_T_37 len_T_firstWrong h1 rfl (Nat.le_of_ble_eq_true rfl) (c0_T_firstWrong (d := d) h1) (Nat.le_refl _) (Nat.le_of_ble_eq_true rfl) (Nat.le_of_ble_eq_true rfl) (fun v h' n' hp => ?_) (fun x h' n' hp => by cases hp.1)
  obtain ⟨hv, rfl, rfl⟩ := hp
  cases hv
  refine et_invV mV_T_noteWrong (As := [_]) rfl d_T_isEquation_7 lk_T_41 len_T_noteWrong rfl rfl (Nat.le_of_ble_eq_true rfl) (c_T_noteWrong (d := d) (by decide) rfl) (Nat.le_refl _) (Nat.le_of_ble_eq_true rfl) (Nat.le_of_ble_eq_true rfl) (fun v h' n' hp => ?_) (fun x h' n' hp => by cases hp.1)
  obtain ⟨hv, rfl, rfl⟩ := hp
  cases hv
  exact et_zret d_T_isEquation_10 rfl rfl (Nat.le_of_ble_eq_true rfl) (Nat.le_of_ble_eq_true rfl) ⟨rfl, rfl, fun k e => by simp [va_up, e]⟩
set_option maxHeartbeats 4000000 in
set_option maxRecDepth 100000 in
theorem c0_T_isRule {sc : et_X} {h : Nat → et_MC} {d n : Nat} {mid wp : Int32} (h1 : h 1 = .inr (4, [.ref 2, .int 0, .int mid, .int wp])) : et_Cn sc Y_T_isRule (d + 1) [.ref 1] h n 0 0 (fun r h' n' => r = .inl (some (.int 0)) ∧ n' = n ∧ ∀ k, k ≠ 1 → h' k = h k) := by
  refine et_Cn.of 0 rfl rfl (by decide) mV_T_isRule.1 ?_
  refine et_aload_n (i := 0) d_T_isRule_0 rfl rfl ?_
  refine et_aload_n (i := 0) d_T_isRule_1 rfl rfl ?_
  refine et_iconst (v := 1) d_T_isRule_2 (by decide) ?_
  refine et_iconst (v := 1) d_T_isRule_3 (by decide) ?_
  refine et_invV mV_T_firstWrong (As := [_, _]) rfl d_T_isRule_4 lk_T_37 len_T_firstWrong h1 rfl (Nat.le_of_ble_eq_true rfl) (c0_T_firstWrong (d := d) h1) (Nat.le_refl _) (Nat.le_of_ble_eq_true rfl) (Nat.le_of_ble_eq_true rfl) (fun v h' n' hp => ?_) (fun x h' n' hp => by cases hp.1)
  obtain ⟨hv, rfl, rfl⟩ := hp
  cases hv
  refine et_invV mV_T_noteWrong (As := [_]) rfl d_T_isRule_7 lk_T_41 len_T_noteWrong rfl rfl (Nat.le_of_ble_eq_true rfl) (c_T_noteWrong (d := d) (by decide) rfl) (Nat.le_refl _) (Nat.le_of_ble_eq_true rfl) (Nat.le_of_ble_eq_true rfl) (fun v h' n' hp => ?_) (fun x h' n' hp => by cases hp.1)
  obtain ⟨hv, rfl, rfl⟩ := hp
  cases hv
  exact et_zret d_T_isRule_10 rfl rfl (Nat.le_of_ble_eq_true rfl) (Nat.le_of_ble_eq_true rfl) ⟨rfl, rfl, fun k e => by simp [va_up, e]⟩
set_option maxHeartbeats 4000000 in
set_option maxRecDepth 100000 in
theorem c0_E_demandTerm {sc : et_X} {h : Nat → et_MC} {d n : Nat} {rc : Int32} (f0 : h 0 = .inr (6, [.ref 1, .ref 3, .ref 10, .ref 13, .ref 17, .ref 63, .int rc])) {mid wp : Int32} (h1 : h 1 = .inr (4, [.ref 2, .int 0, .int mid, .int wp])) : et_Cn sc Y_E_demandTerm (d + 2) [.ref 0] h n 1 6 (fun r h' n' => r = .inr 0 ∧ n' = n + 1 ∧ ∀ k, k ≠ 1 → k ≠ n → h' k = h k) := by
  refine et_Cn.of 0 rfl rfl (by decide) mV_E_demandTerm.1 ?_
  refine et_aload_n (i := 0) d_E_demandTerm_0 rfl rfl ?_
  refine et_getf (ci := 6) 0 d_E_demandTerm_1 f0 rfl in_E (by decide) fl_E_10 rfl ?_
  refine et_invV mV_T_isTerm (As := []) rfl d_E_demandTerm_4 lk_E_189 len_T_isTerm h1 rfl (Nat.le_of_ble_eq_true rfl) (c0_T_isTerm (d := d) h1) (Nat.le_refl _) (Nat.le_of_ble_eq_true rfl) (Nat.le_of_ble_eq_true rfl) (fun v h' n' hp => ?_) (fun x h' n' hp => by cases hp.1)
  obtain ⟨hv, rfl, fr⟩ := hp
  cases hv
  refine et_if_ne (tgt := 20) d_E_demandTerm_7 (by decide) (fun q => absurd (by decide) q) (fun _ => ?_)
  exact et_throw (x := 0) "the text is no term" d_E_demandTerm_10 d_E_demandTerm_13 d_E_demandTerm_14 d_E_demandTerm_16 d_E_demandTerm_19 (by decide +kernel) cl_E_79 ini_IllegalArgumentException ins_IllegalArgumentException thr_0 (by decide +kernel) rfl (Nat.le_of_ble_eq_true rfl) (Nat.le_of_ble_eq_true rfl) (Nat.le_of_ble_eq_true rfl) ⟨rfl, rfl, fun k e1 e2 => by simp [va_up, e2, fr k e1]⟩
set_option maxHeartbeats 4000000 in
set_option maxRecDepth 100000 in
theorem c0_E_demandEquation {sc : et_X} {h : Nat → et_MC} {d n : Nat} {rc : Int32} (f0 : h 0 = .inr (6, [.ref 1, .ref 3, .ref 10, .ref 13, .ref 17, .ref 63, .int rc])) {mid wp : Int32} (h1 : h 1 = .inr (4, [.ref 2, .int 0, .int mid, .int wp])) : et_Cn sc Y_E_demandEquation (d + 2) [.ref 0] h n 1 6 (fun r h' n' => r = .inr 0 ∧ n' = n + 1 ∧ ∀ k, k ≠ 1 → k ≠ n → h' k = h k) := by
  refine et_Cn.of 0 rfl rfl (by decide) mV_E_demandEquation.1 ?_
  refine et_aload_n (i := 0) d_E_demandEquation_0 rfl rfl ?_
  refine et_getf (ci := 6) 0 d_E_demandEquation_1 f0 rfl in_E (by decide) fl_E_10 rfl ?_
  refine et_invV mV_T_isEquation (As := []) rfl d_E_demandEquation_4 lk_E_194 len_T_isEquation h1 rfl (Nat.le_of_ble_eq_true rfl) (c0_T_isEquation (d := d) h1) (Nat.le_refl _) (Nat.le_of_ble_eq_true rfl) (Nat.le_of_ble_eq_true rfl) (fun v h' n' hp => ?_) (fun x h' n' hp => by cases hp.1)
  obtain ⟨hv, rfl, fr⟩ := hp
  cases hv
  refine et_if_ne (tgt := 20) d_E_demandEquation_7 (by decide) (fun q => absurd (by decide) q) (fun _ => ?_)
  exact et_throw (x := 0) "the text is not two terms" d_E_demandEquation_10 d_E_demandEquation_13 d_E_demandEquation_14 d_E_demandEquation_16 d_E_demandEquation_19 (by decide +kernel) cl_E_79 ini_IllegalArgumentException ins_IllegalArgumentException thr_0 (by decide +kernel) rfl (Nat.le_of_ble_eq_true rfl) (Nat.le_of_ble_eq_true rfl) (Nat.le_of_ble_eq_true rfl) ⟨rfl, rfl, fun k e1 e2 => by simp [va_up, e2, fr k e1]⟩
set_option maxHeartbeats 4000000 in
set_option maxRecDepth 100000 in
theorem c0_E_rule {sc : et_X} {h : Nat → et_MC} {d n : Nat} {rc : Int32} (f0 : h 0 = .inr (6, [.ref 1, .ref 3, .ref 10, .ref 13, .ref 17, .ref 63, .int rc])) {mid wp : Int32} (h1 : h 1 = .inr (4, [.ref 2, .int 0, .int mid, .int wp])) : et_Cn sc Y_E_rule (d + 2) [.ref 0] h n 1 6 (fun r h' n' => r = .inr 0 ∧ n' = n + 1 ∧ ∀ k, k ≠ 1 → k ≠ n → h' k = h k) := by
  refine et_Cn.of 0 rfl rfl (by decide) mV_E_rule.1 ?_
  refine et_aload_n (i := 0) d_E_rule_0 rfl rfl ?_
  refine et_getf (ci := 6) 0 d_E_rule_1 f0 rfl in_E (by decide) fl_E_10 rfl ?_
  refine et_invV mV_T_isRule (As := []) rfl d_E_rule_4 lk_E_75 len_T_isRule h1 rfl (Nat.le_of_ble_eq_true rfl) (c0_T_isRule (d := d) h1) (Nat.le_refl _) (Nat.le_of_ble_eq_true rfl) (Nat.le_of_ble_eq_true rfl) (fun v h' n' hp => ?_) (fun x h' n' hp => by cases hp.1)
  obtain ⟨hv, rfl, fr⟩ := hp
  cases hv
  refine et_if_ne (tgt := 20) d_E_rule_7 (by decide) (fun q => absurd (by decide) q) (fun _ => ?_)
  exact et_throw (x := 0) "the text is no rule" d_E_rule_10 d_E_rule_13 d_E_rule_14 d_E_rule_16 d_E_rule_19 (by decide +kernel) cl_E_79 ini_IllegalArgumentException ins_IllegalArgumentException thr_0 (by decide +kernel) rfl (Nat.le_of_ble_eq_true rfl) (Nat.le_of_ble_eq_true rfl) (Nat.le_of_ble_eq_true rfl) ⟨rfl, rfl, fun k e1 e2 => by simp [va_up, e2, fr k e1]⟩
set_option maxHeartbeats 4000000 in
set_option maxRecDepth 100000 in
theorem c0_E_add {sc : et_X} {h : Nat → et_MC} {d n : Nat} {rc : Int32} (f0 : h 0 = .inr (6, [.ref 1, .ref 3, .ref 10, .ref 13, .ref 17, .ref 63, .int rc])) {mid wp : Int32} (h1 : h 1 = .inr (4, [.ref 2, .int 0, .int mid, .int wp])) : et_Cn sc Y_E_add (d + 3) [.ref 0] h n 1 6 (fun r h' n' => r = .inr 0 ∧ n' = n + 1 ∧ ∀ k, k ≠ 1 → k ≠ n → h' k = h k) := by
  refine et_Cn.of 2 rfl rfl (by decide) mV_E_add.1 ?_
  refine et_aload_n (i := 0) d_E_add_0 rfl rfl ?_
  refine et_invV mV_E_demandTerm (As := []) rfl d_E_add_1 lk_E_94 len_E_demandTerm f0 rfl (Nat.le_of_ble_eq_true rfl) (c0_E_demandTerm (d := d) f0 h1) (Nat.le_refl _) (Nat.le_of_ble_eq_true rfl) (Nat.le_of_ble_eq_true rfl) (fun v h' n' hp => ?_) (fun x h' n' hp => ⟨rfl, hp⟩)
  cases hp.1
set_option maxHeartbeats 4000000 in
set_option maxRecDepth 100000 in
theorem c0_E_unite {sc : et_X} {h : Nat → et_MC} {d n : Nat} {rc : Int32} (f0 : h 0 = .inr (6, [.ref 1, .ref 3, .ref 10, .ref 13, .ref 17, .ref 63, .int rc])) {mid wp : Int32} (h1 : h 1 = .inr (4, [.ref 2, .int 0, .int mid, .int wp])) : et_Cn sc Y_E_unite (d + 3) [.ref 0] h n 1 6 (fun r h' n' => r = .inr 0 ∧ n' = n + 1 ∧ ∀ k, k ≠ 1 → k ≠ n → h' k = h k) := by
  refine et_Cn.of 4 rfl rfl (by decide) mV_E_unite.1 ?_
  refine et_aload_n (i := 0) d_E_unite_0 rfl rfl ?_
  refine et_invV mV_E_demandEquation (As := []) rfl d_E_unite_1 lk_E_113 len_E_demandEquation f0 rfl (Nat.le_of_ble_eq_true rfl) (c0_E_demandEquation (d := d) f0 h1) (Nat.le_refl _) (Nat.le_of_ble_eq_true rfl) (Nat.le_of_ble_eq_true rfl) (fun v h' n' hp => ?_) (fun x h' n' hp => ⟨rfl, hp⟩)
  cases hp.1
set_option maxHeartbeats 4000000 in
set_option maxRecDepth 100000 in
theorem c0_E_same {sc : et_X} {h : Nat → et_MC} {d n : Nat} {rc : Int32} (f0 : h 0 = .inr (6, [.ref 1, .ref 3, .ref 10, .ref 13, .ref 17, .ref 63, .int rc])) {mid wp : Int32} (h1 : h 1 = .inr (4, [.ref 2, .int 0, .int mid, .int wp])) : et_Cn sc Y_E_same (d + 3) [.ref 0] h n 1 6 (fun r h' n' => r = .inr 0 ∧ n' = n + 1 ∧ ∀ k, k ≠ 1 → k ≠ n → h' k = h k) := by
  refine et_Cn.of 2 rfl rfl (by decide) mV_E_same.1 ?_
  refine et_aload_n (i := 0) d_E_same_0 rfl rfl ?_
  refine et_invV mV_E_demandEquation (As := []) rfl d_E_same_1 lk_E_113 len_E_demandEquation f0 rfl (Nat.le_of_ble_eq_true rfl) (c0_E_demandEquation (d := d) f0 h1) (Nat.le_refl _) (Nat.le_of_ble_eq_true rfl) (Nat.le_of_ble_eq_true rfl) (fun v h' n' hp => ?_) (fun x h' n' hp => ⟨rfl, hp⟩)
  cases hp.1
set_option maxHeartbeats 4000000 in
set_option maxRecDepth 100000 in
theorem c0_E_takeTerm {sc : et_X} {h : Nat → et_MC} {d n : Nat} {rc : Int32} (f0 : h 0 = .inr (6, [.ref 1, .ref 3, .ref 10, .ref 13, .ref 17, .ref 63, .int rc])) {mid wp : Int32} (h1 : h 1 = .inr (4, [.ref 2, .int 0, .int mid, .int wp])) : et_Cn sc Y_E_takeTerm (d + 3) [.ref 0] h n 1 6 (fun r h' n' => r = .inr 0 ∧ n' = n + 1 ∧ ∀ k, k ≠ 1 → k ≠ n → h' k = h k) := by
  refine et_Cn.of 1 rfl rfl (by decide) mV_E_takeTerm.1 ?_
  refine et_aload_n (i := 0) d_E_takeTerm_0 rfl rfl ?_
  refine et_invV mV_E_demandTerm (As := []) rfl d_E_takeTerm_1 lk_E_94 len_E_demandTerm f0 rfl (Nat.le_of_ble_eq_true rfl) (c0_E_demandTerm (d := d) f0 h1) (Nat.le_refl _) (Nat.le_of_ble_eq_true rfl) (Nat.le_of_ble_eq_true rfl) (fun v h' n' hp => ?_) (fun x h' n' hp => ⟨rfl, hp⟩)
  cases hp.1
set_option maxHeartbeats 4000000 in
set_option maxRecDepth 100000 in
theorem c0_E_members {sc : et_X} {h : Nat → et_MC} {d n : Nat} {rc : Int32} (f0 : h 0 = .inr (6, [.ref 1, .ref 3, .ref 10, .ref 13, .ref 17, .ref 63, .int rc])) {mid wp : Int32} (h1 : h 1 = .inr (4, [.ref 2, .int 0, .int mid, .int wp])) : et_Cn sc Y_E_members (d + 4) [.ref 0] h n 1 6 (fun r h' n' => r = .inr 0 ∧ n' = n + 1 ∧ ∀ k, k ≠ 1 → k ≠ n → h' k = h k) := by
  refine et_Cn.of 1 rfl rfl (by decide) mV_E_members.1 ?_
  refine et_aload_n (i := 0) d_E_members_0 rfl rfl ?_
  refine et_invV mV_E_takeTerm (As := []) rfl d_E_members_1 lk_E_152 len_E_takeTerm f0 rfl (Nat.le_of_ble_eq_true rfl) (c0_E_takeTerm (d := d) f0 h1) (Nat.le_refl _) (Nat.le_of_ble_eq_true rfl) (Nat.le_of_ble_eq_true rfl) (fun v h' n' hp => ?_) (fun x h' n' hp => ⟨rfl, hp⟩)
  cases hp.1
set_option maxHeartbeats 4000000 in
set_option maxRecDepth 100000 in
theorem c0_E_cost {sc : et_X} {h : Nat → et_MC} {d n : Nat} {rc : Int32} (f0 : h 0 = .inr (6, [.ref 1, .ref 3, .ref 10, .ref 13, .ref 17, .ref 63, .int rc])) {mid wp : Int32} (h1 : h 1 = .inr (4, [.ref 2, .int 0, .int mid, .int wp])) : et_Cn sc Y_E_cost (d + 4) [.ref 0] h n 1 6 (fun r h' n' => r = .inr 0 ∧ n' = n + 1 ∧ ∀ k, k ≠ 1 → k ≠ n → h' k = h k) := by
  refine et_Cn.of 1 rfl rfl (by decide) mV_E_cost.1 ?_
  refine et_aload_n (i := 0) d_E_cost_0 rfl rfl ?_
  refine et_invV mV_E_takeTerm (As := []) rfl d_E_cost_1 lk_E_152 len_E_takeTerm f0 rfl (Nat.le_of_ble_eq_true rfl) (c0_E_takeTerm (d := d) f0 h1) (Nat.le_refl _) (Nat.le_of_ble_eq_true rfl) (Nat.le_of_ble_eq_true rfl) (fun v h' n' hp => ?_) (fun x h' n' hp => ⟨rfl, hp⟩)
  cases hp.1
set_option maxHeartbeats 4000000 in
set_option maxRecDepth 100000 in
theorem c0_E_best {sc : et_X} {h : Nat → et_MC} {d n : Nat} {rc : Int32} (f0 : h 0 = .inr (6, [.ref 1, .ref 3, .ref 10, .ref 13, .ref 17, .ref 63, .int rc])) {mid wp : Int32} (h1 : h 1 = .inr (4, [.ref 2, .int 0, .int mid, .int wp])) : et_Cn sc Y_E_best (d + 4) [.ref 0] h n 1 6 (fun r h' n' => r = .inr 0 ∧ n' = n + 1 ∧ ∀ k, k ≠ 1 → k ≠ n → h' k = h k) := by
  refine et_Cn.of 2 rfl rfl (by decide) mV_E_best.1 ?_
  refine et_aload_n (i := 0) d_E_best_0 rfl rfl ?_
  refine et_invV mV_E_takeTerm (As := []) rfl d_E_best_1 lk_E_152 len_E_takeTerm f0 rfl (Nat.le_of_ble_eq_true rfl) (c0_E_takeTerm (d := d) f0 h1) (Nat.le_refl _) (Nat.le_of_ble_eq_true rfl) (Nat.le_of_ble_eq_true rfl) (fun v h' n' hp => ?_) (fun x h' n' hp => ⟨rfl, hp⟩)
  cases hp.1
set_option maxHeartbeats 4000000 in
set_option maxRecDepth 100000 in
theorem c_E_place {sc : et_X} {h : Nat → et_MC} {d n : Nat} {rc sz mid wp : Int32} (f0 : h 0 = .inr (6, [.ref 1, .ref 3, .ref 10, .ref 13, .ref 17, .ref 63, .int rc])) (h1 : h 1 = .inr (4, [.ref 2, .int sz, .int mid, .int wp])) : et_Cn sc Y_E_place d [.ref 0] h n 0 0 (fun r h' n' => r = .inl (some (.int wp)) ∧ n' = n ∧ h' = h) := by
  refine et_Cn.of 0 rfl rfl (by decide) mV_E_place.1 ?_
  refine et_aload_n (i := 0) d_E_place_0 rfl rfl ?_
  refine et_getf (ci := 6) 0 d_E_place_1 f0 rfl in_E (by decide) fl_E_10 rfl ?_
  refine et_getf (ci := 4) 3 d_E_place_4 h1 rfl in_T (by decide) fl_E_72 rfl ?_
  exact et_iret d_E_place_7 rfl (Nat.le_of_ble_eq_true rfl) (Nat.le_of_ble_eq_true rfl) ⟨rfl, rfl, rfl⟩
set_option maxHeartbeats 4000000 in
set_option maxRecDepth 100000 in
theorem c_E_nodes {sc : et_X} {h : Nat → et_MC} {d n : Nat} {rc nd cs : Int32} (f0 : h 0 = .inr (6, [.ref 1, .ref 3, .ref 10, .ref 13, .ref 17, .ref 63, .int rc])) (h3 : h 3 = .inr (1, [.ref 4, .ref 5, .ref 6, .ref 7, .int nd, .int cs, .ref 8, .ref 9])) : et_Cn sc Y_E_nodes d [.ref 0] h n 0 0 (fun r h' n' => r = .inl (some (.int nd)) ∧ n' = n ∧ h' = h) := by
  refine et_Cn.of 0 rfl rfl (by decide) mV_E_nodes.1 ?_
  refine et_aload_n (i := 0) d_E_nodes_0 rfl rfl ?_
  refine et_getf (ci := 6) 1 d_E_nodes_1 f0 rfl in_E (by decide) fl_E_19 rfl ?_
  refine et_getf (ci := 1) 4 d_E_nodes_4 h3 rfl in_G (by decide) fl_E_97 rfl ?_
  exact et_iret d_E_nodes_7 rfl (Nat.le_of_ble_eq_true rfl) (Nat.le_of_ble_eq_true rfl) ⟨rfl, rfl, rfl⟩
set_option maxHeartbeats 4000000 in
set_option maxRecDepth 100000 in
theorem c_E_classes {sc : et_X} {h : Nat → et_MC} {d n : Nat} {rc nd cs : Int32} (f0 : h 0 = .inr (6, [.ref 1, .ref 3, .ref 10, .ref 13, .ref 17, .ref 63, .int rc])) (h3 : h 3 = .inr (1, [.ref 4, .ref 5, .ref 6, .ref 7, .int nd, .int cs, .ref 8, .ref 9])) : et_Cn sc Y_E_classes d [.ref 0] h n 0 0 (fun r h' n' => r = .inl (some (.int cs)) ∧ n' = n ∧ h' = h) := by
  refine et_Cn.of 0 rfl rfl (by decide) mV_E_classes.1 ?_
  refine et_aload_n (i := 0) d_E_classes_0 rfl rfl ?_
  refine et_getf (ci := 6) 1 d_E_classes_1 f0 rfl in_E (by decide) fl_E_19 rfl ?_
  refine et_getf (ci := 1) 5 d_E_classes_4 h3 rfl in_G (by decide) fl_E_100 rfl ?_
  exact et_iret d_E_classes_7 rfl (Nat.le_of_ble_eq_true rfl) (Nat.le_of_ble_eq_true rfl) ⟨rfl, rfl, rfl⟩
set_option maxHeartbeats 4000000 in
set_option maxRecDepth 100000 in
theorem c_E_wipe {sc : et_X} {h : Nat → et_MC} {d n : Nat} {rc sz mid wp : Int32} (f0 : h 0 = .inr (6, [.ref 1, .ref 3, .ref 10, .ref 13, .ref 17, .ref 63, .int rc])) (h1 : h 1 = .inr (4, [.ref 2, .int sz, .int mid, .int wp])) : et_Cn sc Y_E_wipe (d + 1) [.ref 0] h n 0 0 (fun r h' n' => r = .inl (some (.int sz)) ∧ n' = n ∧ h' = va_up h 1 (.inr (4, [.ref 2, .int 0, .int mid, .int wp]))) := by
  refine et_Cn.of 1 rfl rfl (by decide) mV_E_wipe.1 ?_
  refine et_aload_n (i := 0) d_E_wipe_0 rfl rfl ?_
  refine et_getf (ci := 6) 0 d_E_wipe_1 f0 rfl in_E (by decide) fl_E_10 rfl ?_
  refine et_getf (ci := 4) 1 d_E_wipe_4 h1 rfl in_T (by decide) fl_E_62 rfl ?_
  refine et_istore_n (i := 1) (lv' := [_, _]) d_E_wipe_7 rfl (by decide) rfl rfl ?_
  refine et_aload_n (i := 0) d_E_wipe_8 rfl rfl ?_
  refine et_getf (ci := 6) 0 d_E_wipe_9 f0 rfl in_E (by decide) fl_E_10 rfl ?_
  refine et_invV mV_T_clear (As := []) rfl d_E_wipe_12 lk_E_65 len_T_clear h1 rfl (Nat.le_of_ble_eq_true rfl) (c_T_clear (d := d) h1) (Nat.le_refl _) (Nat.le_of_ble_eq_true rfl) (Nat.le_of_ble_eq_true rfl) (fun v h' n' hp => ?_) (fun x h' n' hp => by cases hp.1)
  obtain ⟨hv, rfl, rfl⟩ := hp
  cases hv
  refine et_iload_n (i := 1) d_E_wipe_15 rfl rfl ?_
  exact et_iret d_E_wipe_16 rfl (Nat.le_of_ble_eq_true rfl) (Nat.le_of_ble_eq_true rfl) ⟨rfl, rfl, rfl⟩
set_option maxHeartbeats 4000000 in
set_option maxRecDepth 100000 in
theorem c_E_character {sc : et_X} {h : Nat → et_MC} {d n : Nat} {rc mid wp i : Int32} {sz : Nat} {f : Nat → Int32} (f0 : h 0 = .inr (6, [.ref 1, .ref 3, .ref 10, .ref 13, .ref 17, .ref 63, .int rc])) (hsz : sz ≤ 60) (h1 : h 1 = .inr (4, [.ref 2, .int (nI sz), .int mid, .int wp])) (h2 : h 2 = .inl (0, 60, .inl f)) : et_Cn sc Y_E_character d [.ref 0, .int i] h n 0 0 (fun r h' n' => r = .inl (some (.int (if i < 0 ∨ nI sz ≤ i then -1 else f i.toNatClampNeg))) ∧ n' = n ∧ h' = h) := by
  refine et_Cn.of 0 rfl rfl (by decide) mV_E_character.1 ?_
  refine et_iload_n (i := 1) d_E_character_0 rfl rfl ?_
  refine et_if_lt (tgt := 15) d_E_character_1 (by decide) (fun q => ?_) (fun q => ?_)
  · refine et_iconst (v := (-1)) d_E_character_15 (by decide) ?_
    refine et_goto (tgt := 28) d_E_character_16 (by decide) ?_
    exact et_iret d_E_character_28 rfl (Nat.le_of_ble_eq_true rfl) (Nat.le_of_ble_eq_true rfl) ⟨by rw [if_pos (Or.inl q)], rfl, rfl⟩
  · refine et_iload_n (i := 1) d_E_character_4 rfl rfl ?_
    refine et_aload_n (i := 0) d_E_character_5 rfl rfl ?_
    refine et_getf (ci := 6) 0 d_E_character_6 f0 rfl in_E (by decide) fl_E_10 rfl ?_
    refine et_getf (ci := 4) 1 d_E_character_9 h1 rfl in_T (by decide) fl_E_62 rfl ?_
    refine et_icmp_lt (tgt := 19) d_E_character_12 (by decide) (fun q2 => ?_) (fun q2 => ?_)
    · have hin : vp_in i 60 := vp_in_iff.mpr ⟨by have := Int32.not_lt.mp q; simpa using Int32.le_iff_toInt_le.mp this, by have := Int32.lt_iff_toInt_lt.mp q2; rw [nI_toInt (by omega)] at this; omega⟩
      refine et_aload_n (i := 0) d_E_character_19 rfl rfl ?_
      refine et_getf (ci := 6) 0 d_E_character_20 f0 rfl in_E (by decide) fl_E_10 rfl ?_
      refine et_getf (ci := 4) 0 d_E_character_23 h1 rfl in_T (by decide) fl_E_68 rfl ?_
      refine et_iload_n (i := 1) d_E_character_26 rfl rfl ?_
      refine et_iald d_E_character_27 h2 hin ?_
      exact et_iret d_E_character_28 rfl (Nat.le_of_ble_eq_true rfl) (Nat.le_of_ble_eq_true rfl) ⟨by rw [if_neg (fun z => z.elim q (fun z => absurd q2 (Int32.not_lt.mpr z)))], rfl, rfl⟩
    · refine et_iconst (v := (-1)) d_E_character_15 (by decide) ?_
      refine et_goto (tgt := 28) d_E_character_16 (by decide) ?_
      exact et_iret d_E_character_28 rfl (Nat.le_of_ble_eq_true rfl) (Nat.le_of_ble_eq_true rfl) ⟨by rw [if_pos (Or.inr (Int32.not_lt.mp q2))], rfl, rfl⟩
end
section
def et_by (b : Int64) (i : Int32) : Int32 := (((b.toUInt64 >>> ((8 * i).toInt64.toUInt64 &&& Int64.toUInt64 63)).toInt64) &&& 255).toInt32
set_option maxHeartbeats 4000000 in
set_option maxRecDepth 100000 in
theorem c_T_byteAt {sc : et_X} {h : Nat → et_MC} {d n : Nat} (b : Int64) (i : Int32) : et_Cn sc Y_T_byteAt d [.long b, .int i] h n 0 0 (fun r h' n' => r = .inl (some (.int (et_by b i))) ∧ n' = n ∧ h' = h) := by
  refine et_Cn.of 0 rfl rfl (by decide) mS_T_byteAt.1 ?_
  refine et_lload_n (i := 0) d_T_byteAt_0 rfl rfl ?_
  refine et_bipush (v := 8) d_T_byteAt_1 (by decide) ?_
  refine et_iload_n (i := 2) d_T_byteAt_3 rfl rfl ?_
  refine et_imul d_T_byteAt_4 ?_
  refine et_lushr d_T_byteAt_5 rfl ?_
  refine et_ldc2 d_T_byteAt_6 kl_T_29 ?_
  refine et_land d_T_byteAt_9 ?_
  refine et_l2i d_T_byteAt_10 rfl ?_
  exact et_iret d_T_byteAt_11 rfl (Nat.le_of_ble_eq_true rfl) (Nat.le_of_ble_eq_true rfl) ⟨rfl, rfl, rfl⟩
/-- what can be typed behind sz characters -/
def et_tok (sz : Nat) (b : Int64) (x : Int32) : Prop := ∃ N : Nat, x = nI N ∧ 1 ≤ N ∧ N ≤ 8 ∧ sz + N ≤ 60 ∧ ∀ i, i < N → 33 ≤ et_by b (nI i) ∧ et_by b (nI i) ≤ 126
def et_tP (sz : Nat) (f : Nat → Int32) (mid wp : Int32) (b : Int64) (x : Int32) (h : Nat → et_MC) (r : et_R) (h' : Nat → et_MC) : Prop :=
  (¬ et_tok sz b x ∧ r = .inl (some (.int (-1))) ∧ h' = h) ∨
  (∃ (N : Nat) (g : Nat → Int32), x = nI N ∧ et_tok sz b x ∧ r = .inl (some (.int (nI (sz + N)))) ∧ h' = va_up (va_up h 2 (.inl (0, 60, .inl g))) 1 (.inr (4, [.ref 2, .int (nI (sz + N)), .int mid, .int wp])) ∧ (∀ j, j < sz → g j = f j) ∧ ∀ j, j < N → g (sz + j) = et_by b (nI (N - 1 - j)))
theorem et_tP_r {sz : Nat} {f : Nat → Int32} {mid wp : Int32} {b : Int64} {x : Int32} {h h' : Nat → et_MC} {r : et_R} (hp : et_tP sz f mid wp b x h r h') : ∃ w : Int32, r = .inl (some (.int w)) := by
  rcases hp with ⟨-, z, -⟩ | ⟨N, g, -, -, z, -⟩
  · exact ⟨_, z⟩
  · exact ⟨_, z⟩
theorem et_up21 {α : Type} (h : Nat → α) (A T A' T' : α) : va_up (va_up (va_up (va_up h 2 A) 1 T) 2 A') 1 T' = va_up (va_up h 2 A') 1 T' := by
  funext k
  by_cases e1 : k = 1
  · simp [va_up, e1]
  · by_cases e2 : k = 2 <;> simp [va_up, e1, e2]
theorem et_lt_i {x y : Int32} (h : x < y) : x.toInt < y.toInt := Int32.lt_iff_toInt_lt.mp h
theorem et_le_i {x y : Int32} (h : x ≤ y) : x.toInt ≤ y.toInt := Int32.le_iff_toInt_le.mp h
theorem et_nlt_i {x y : Int32} (h : ¬ x < y) : y.toInt ≤ x.toInt := by
  have := Int32.not_lt.mp h
  exact Int32.le_iff_toInt_le.mp this
theorem et_nle_i {x y : Int32} (h : ¬ x ≤ y) : y.toInt < x.toInt := by
  have := Int32.not_le.mp h
  exact Int32.lt_iff_toInt_lt.mp this
theorem et_m1 (x : Int32) : x + Int32.ofInt (-1) = x - 1 := by rw [Int32.sub_eq_add_neg]; rfl
set_option maxHeartbeats 4000000 in
set_option maxRecDepth 100000 in
theorem c_T_append {sc : et_X} {h : Nat → et_MC} {d n : Nat} {sz : Nat} {f : Nat → Int32} {mid wp : Int32} (b : Int64) (x : Int32) (hsz : sz ≤ 60) (h1 : h 1 = .inr (4, [.ref 2, .int (nI sz), .int mid, .int wp])) (h2 : h 2 = .inl (0, 60, .inl f)) : et_Cn sc Y_T_append (d + 1) [.ref 1, .long b, .int x] h n 0 0 (fun r h' n' => n' = n ∧ et_tP sz f mid wp b x h r h') := by
  refine et_Cn.of 2 rfl rfl (by decide) mV_T_append.1 ?_
  have e0 : (0 : Int32).toInt = 0 := rfl
  have e1 : (1 : Int32).toInt = 1 := rfl
  have e8 : (8 : Int32).toInt = 8 := rfl
  have e60 : (60 : Int32).toInt = 60 := rfl
  refine et_iload_n (i := 3) d_T_append_0 rfl rfl ?_
  refine et_iconst (v := 1) d_T_append_1 (by decide) ?_
  refine et_icmp_lt (tgt := 22) d_T_append_2 (by decide) (fun q1 => ?_) (fun q1 => ?_)
  · have c1 := et_lt_i q1
    refine et_iconst (v := (-1)) d_T_append_22 (by decide) ?_
    exact et_iret d_T_append_23 rfl (Nat.le_of_ble_eq_true rfl) (Nat.le_of_ble_eq_true rfl) ⟨rfl, Or.inl ⟨fun ⟨N, z1, z2, z3, _⟩ => by rw [z1, nI_toInt (by omega), e1] at c1; omega, rfl, rfl⟩⟩
  have c1 := et_nlt_i q1
  refine et_iload_n (i := 3) d_T_append_5 rfl rfl ?_
  refine et_bipush (v := 8) d_T_append_6 (by decide) ?_
  refine et_icmp_gt (tgt := 22) d_T_append_8 (by decide) (fun q2 => ?_) (fun q2 => ?_)
  · have c2 := et_lt_i q2
    refine et_iconst (v := (-1)) d_T_append_22 (by decide) ?_
    exact et_iret d_T_append_23 rfl (Nat.le_of_ble_eq_true rfl) (Nat.le_of_ble_eq_true rfl) ⟨rfl, Or.inl ⟨fun ⟨N, z1, z2, z3, _⟩ => by rw [z1, nI_toInt (by omega), e8] at c2; omega, rfl, rfl⟩⟩
  have c2 := et_nlt_i q2
  rw [e1] at c1
  rw [e8] at c2
  obtain ⟨N, hN8, hx⟩ : ∃ N : Nat, N ≤ 8 ∧ x = nI N := nI_of2 (M := 8) e8 (fun z => by have := et_lt_i z; rw [e0] at this; omega) (Int32.le_iff_toInt_le.mpr (by rw [e8]; exact c2))
  subst hx
  rw [nI_toInt (by omega)] at c1
  have key : ∀ N', nI N = nI N' → N' ≤ 8 → N = N' := fun N' z1 z2 => (nI_eq (by omega) (by omega)).mp z1
  refine et_aload_n (i := 0) d_T_append_11 rfl rfl ?_
  refine et_getf (ci := 4) 1 d_T_append_12 h1 rfl in_T (by decide) fl_T_15 rfl ?_
  refine et_iload_n (i := 3) d_T_append_15 rfl rfl ?_
  refine et_iadd d_T_append_16 ?_
  refine et_bipush (v := 60) d_T_append_17 (by decide) ?_
  refine et_icmp_le (tgt := 24) d_T_append_19 (by decide) (fun q3 => ?_) (fun q3 => ?_)
  rotate_left
  · have c3 := et_nle_i q3
    rw [nI_add, nI_toInt (by omega), e60] at c3
    refine et_iconst (v := (-1)) d_T_append_22 (by decide) ?_
    exact et_iret d_T_append_23 rfl (Nat.le_of_ble_eq_true rfl) (Nat.le_of_ble_eq_true rfl) ⟨rfl, Or.inl ⟨fun ⟨N', z1, z2, z3, z4, _⟩ => by have := key N' z1 z3; omega, rfl, rfl⟩⟩
  have c3 := et_le_i q3
  rw [nI_add, nI_toInt (by omega), e60] at c3
  -- the writes
  have wr : ∀ (t : Nat) (g : Nat → Int32) (hh : Nat → et_MC) (o5 : Option Value), t ≤ N → (∀ i, i < N → 33 ≤ et_by b (nI i) ∧ et_by b (nI i) ≤ 126) → hh = va_up (va_up h 2 (.inl (0, 60, .inl g))) 1 (.inr (4, [.ref 2, .int (nI (sz + (N - t))), .int mid, .int wp])) → (∀ j, j < sz → g j = f j) → (∀ j, j < N - t → g (sz + j) = et_by b (nI (N - 1 - j))) →
      et_M sc Y_T_append (d + 1) 0 0 (fun r h' n' => n' = n ∧ et_tP sz f mid wp b (nI N) h r h') 68 [some (.ref 1), some (.long b), none, some (.int (nI N)), some (.int (nI t - 1)), o5] [] hh n 0 0 := by
    intro t
    induction t with
    | zero =>
      intro g hh o5 ht hok he hg1 hg2
      subst he
      refine et_iload d_T_append_68 rfl ?_
      refine et_if_lt (tgt := 104) d_T_append_70 (by decide) (fun _ => ?_) (fun q => absurd (show nI 0 - 1 < 0 by decide) q)
      refine et_aload_n (i := 0) d_T_append_104 rfl rfl ?_
      refine et_getf (ci := 4) 1 d_T_append_105 rfl rfl in_T (by decide) fl_T_15 rfl ?_
      exact et_iret d_T_append_108 rfl (Nat.le_of_ble_eq_true rfl) (Nat.le_of_ble_eq_true rfl) ⟨rfl, Or.inr ⟨N, g, rfl, ⟨N, rfl, by omega, hN8, by omega, hok⟩, by simp, by simp, hg1, by simpa using hg2⟩⟩
    | succ t ih =>
      intro g hh o5 ht hok he hg1 hg2
      subst he
      rw [nI_pred]
      refine et_iload d_T_append_68 rfl ?_
      refine et_if_lt (tgt := 104) d_T_append_70 (by decide) (fun q => absurd q (nI_pos (by omega))) (fun _ => ?_)
      refine et_aload_n (i := 0) d_T_append_73 rfl rfl ?_
      refine et_getf (ci := 4) 0 d_T_append_74 rfl rfl in_T (by decide) fl_T_9 rfl ?_
      refine et_aload_n (i := 0) d_T_append_77 rfl rfl ?_
      refine et_getf (ci := 4) 1 d_T_append_78 rfl rfl in_T (by decide) fl_T_15 rfl ?_
      refine et_lload_n (i := 1) d_T_append_81 rfl rfl ?_
      refine et_iload d_T_append_82 rfl ?_
      refine et_invS mS_T_byteAt (As := [_, _]) rfl d_T_append_84 lk_T_25 len_T_byteAt (Nat.le_of_ble_eq_true rfl) (c_T_byteAt (d := d) b (nI t)) (Nat.le_refl _) (Nat.le_of_ble_eq_true rfl) (Nat.le_of_ble_eq_true rfl) (fun v h' n' hp => ?_) (fun x h' n' hp => by cases hp.1)
      obtain ⟨hv, rfl, rfl⟩ := hp
      cases hv
      refine et_iast d_T_append_87 rfl (vp_in_nI (show sz + (N - (t + 1)) < 60 by omega) (by decide)) ?_
      refine et_aload_n (i := 0) d_T_append_88 rfl rfl ?_
      refine et_dup d_T_append_89 rfl ?_
      refine et_getf (ci := 4) 1 d_T_append_90 rfl rfl in_T (by decide) fl_T_15 rfl ?_
      refine et_iconst (v := 1) d_T_append_93 (by decide) ?_
      refine et_iadd d_T_append_94 ?_
      refine et_putf (ci := 4) 1 d_T_append_95 rfl rfl in_T ty_T nm_T (by decide) fl_T_15 rfl rfl (fun _ => rfl) (fun _ => rfl) (Nat.le_of_ble_eq_true rfl) (fs' := [_, _, _, _]) rfl ?_
      refine et_iinc (lv' := [_, _, _, _, _, _]) d_T_append_98 rfl (v := nI t - 1) (et_m1 _) (by decide) rfl rfl ?_
      refine et_goto (tgt := 68) d_T_append_101 (by decide) ?_
      refine ih (upd g (nI (sz + (N - (t + 1)))).toNatClampNeg (et_by b (nI t))) _ o5 (by omega) hok ?_ (fun j hj => ?_) (fun j hj => ?_)
      · rw [et_up21]
        congr 6
        rw [nI_1]
        congr 1
        omega
      · rw [nI_clamp (by omega), pk_un (by omega)]
        exact hg1 j hj
      · rw [nI_clamp (by omega)]
        by_cases e : j = N - (t + 1)
        · rw [e, pk_us]
          congr 2
          omega
        · rw [pk_un (by omega)]
          exact hg2 j (by omega)
  -- the checks
  have ck : ∀ (t i : Nat) (o5 : Option Value), i + t = N → (∀ j, j < i → 33 ≤ et_by b (nI j) ∧ et_by b (nI j) ≤ 126) →
      et_M sc Y_T_append (d + 1) 0 0 (fun r h' n' => n' = n ∧ et_tP sz f mid wp b (nI N) h r h') 27 [some (.ref 1), some (.long b), none, some (.int (nI N)), some (.int (nI i)), o5] [] h n 0 0 := by
    intro t
    induction t with
    | zero =>
      intro i o5 hi hok
      obtain rfl : i = N := by omega
      refine et_iload d_T_append_27 rfl ?_
      refine et_iload_n (i := 3) d_T_append_29 rfl rfl ?_
      refine et_icmp_ge (tgt := 63) d_T_append_30 (by decide) (fun _ => ?_) (fun q => absurd (nI_le (Nat.le_refl _) (by omega)) q)
      refine et_iload_n (i := 3) d_T_append_63 rfl rfl ?_
      refine et_iconst (v := 1) d_T_append_64 (by decide) ?_
      refine et_isub d_T_append_65 ?_
      refine et_istore (lv' := [_, _, _, _, _, _]) d_T_append_66 (by decide) rfl rfl ?_
      refine wr i f h o5 (Nat.le_refl _) hok ?_ (fun j _ => rfl) (fun j hj => absurd hj (by omega))
      funext k
      by_cases e1 : k = 1
      · simp [va_up, e1, h1]
      · by_cases e2 : k = 2 <;> simp [va_up, e1, e2, h2]
    | succ t ih =>
      intro i o5 hi hok
      refine et_iload d_T_append_27 rfl ?_
      refine et_iload_n (i := 3) d_T_append_29 rfl rfl ?_
      refine et_icmp_ge (tgt := 63) d_T_append_30 (by decide) (fun q => absurd q (nI_ge (by omega) (by omega))) (fun _ => ?_)
      refine et_lload_n (i := 1) d_T_append_33 rfl rfl ?_
      refine et_iload d_T_append_34 rfl ?_
      refine et_invS mS_T_byteAt (As := [_, _]) rfl d_T_append_36 lk_T_25 len_T_byteAt (Nat.le_of_ble_eq_true rfl) (c_T_byteAt (d := d) b (nI i)) (Nat.le_refl _) (Nat.le_of_ble_eq_true rfl) (Nat.le_of_ble_eq_true rfl) (fun v h' n' hp => ?_) (fun x h' n' hp => by cases hp.1)
      obtain ⟨hv, rfl, rfl⟩ := hp
      cases hv
      refine et_istore (lv' := [_, _, _, _, _, _]) d_T_append_39 (by decide) rfl rfl ?_
      refine et_iload d_T_append_41 rfl ?_
      refine et_bipush (v := 33) d_T_append_43 (by decide) ?_
      refine et_icmp_lt (tgt := 55) d_T_append_45 (by decide) (fun q4 => ?_) (fun q4 => ?_)
      · refine et_iconst (v := (-1)) d_T_append_55 (by decide) ?_
        exact et_iret d_T_append_56 rfl (Nat.le_of_ble_eq_true rfl) (Nat.le_of_ble_eq_true rfl) ⟨rfl, Or.inl ⟨fun ⟨N', z1, z2, z3, z4, z5⟩ => by have e9 := key N' z1 z3; exact absurd (z5 i (by omega)).1 (Int32.not_le.mpr q4), rfl, rfl⟩⟩
      refine et_iload d_T_append_48 rfl ?_
      refine et_bipush (v := 126) d_T_append_50 (by decide) ?_
      refine et_icmp_le (tgt := 57) d_T_append_52 (by decide) (fun q5 => ?_) (fun q5 => ?_)
      rotate_left
      · refine et_iconst (v := (-1)) d_T_append_55 (by decide) ?_
        exact et_iret d_T_append_56 rfl (Nat.le_of_ble_eq_true rfl) (Nat.le_of_ble_eq_true rfl) ⟨rfl, Or.inl ⟨fun ⟨N', z1, z2, z3, z4, z5⟩ => by have e9 := key N' z1 z3; exact q5 (z5 i (by omega)).2, rfl, rfl⟩⟩
      refine et_iinc (lv' := [_, _, _, _, _, _]) d_T_append_57 rfl (v := nI (i + 1)) (nI_1 i) (by decide) rfl rfl ?_
      refine et_goto (tgt := 27) d_T_append_60 (by decide) ?_
      refine ih (i + 1) _ (by omega) (fun j hj => ?_)
      by_cases e : j = i
      · rw [e]; exact ⟨Int32.not_lt.mp q4, q5⟩
      · exact hok j (by omega)
  refine et_iconst (v := 0) d_T_append_24 (by decide) ?_
  refine et_istore (lv' := [_, _, _, _, _, _]) d_T_append_25 (by decide) rfl rfl ?_
  exact ck N 0 none (by omega) (fun j hj => absurd hj (Nat.not_lt_zero j))
set_option maxHeartbeats 4000000 in
set_option maxRecDepth 100000 in
theorem c_E_type {sc : et_X} {h : Nat → et_MC} {d n : Nat} {rc : Int32} {sz : Nat} {f : Nat → Int32} {mid wp : Int32} (b : Int64) (x : Int32) (f0 : h 0 = .inr (6, [.ref 1, .ref 3, .ref 10, .ref 13, .ref 17, .ref 63, .int rc])) (hsz : sz ≤ 60) (h1 : h 1 = .inr (4, [.ref 2, .int (nI sz), .int mid, .int wp])) (h2 : h 2 = .inl (0, 60, .inl f)) : et_Cn sc Y_E_type (d + 2) [.ref 0, .long b, .int x] h n 0 0 (fun r h' n' => n' = n ∧ et_tP sz f mid wp b x h r h') := by
  refine et_Cn.of 0 rfl rfl (by decide) mV_E_type.1 ?_
  refine et_aload_n (i := 0) d_E_type_0 rfl rfl ?_
  refine et_getf (ci := 6) 0 d_E_type_1 f0 rfl in_E (by decide) fl_E_10 rfl ?_
  refine et_lload_n (i := 1) d_E_type_4 rfl rfl ?_
  refine et_iload_n (i := 3) d_E_type_5 rfl rfl ?_
  refine et_invV mV_T_append (As := [_, _]) rfl d_E_type_6 lk_E_58 len_T_append h1 rfl (Nat.le_of_ble_eq_true rfl) (c_T_append (d := d) b x hsz h1 h2) (Nat.le_refl _) (Nat.le_of_ble_eq_true rfl) (Nat.le_of_ble_eq_true rfl) (fun v h' n' hp => ?_) (fun x h' n' hp => by obtain ⟨w, hw⟩ := et_tP_r hp.2; cases hw)
  obtain ⟨rfl, hp⟩ := hp
  obtain ⟨w, hw⟩ := et_tP_r hp
  cases hw
  exact et_iret d_E_type_9 rfl (Nat.le_of_ble_eq_true rfl) (Nat.le_of_ble_eq_true rfl) ⟨rfl, hp⟩
end
section
/-- how many terms a sign takes -/
def et_pt (x : Int32) : Int32 := if x = 33 then 1 else if x = 42 then 2 else if x = 43 then 2 else if x = 45 then 1 else if x = 94 then 2 else if x = 120 then 0 else if x = 121 then 0 else if x = 122 then 0 else if 48 ≤ x ∧ x ≤ 57 then 0 else -1
set_option maxHeartbeats 4000000 in
set_option maxRecDepth 100000 in
theorem c_S_parts {sc : et_X} {h : Nat → et_MC} {d n : Nat} (x : Int32) : et_Cn sc Y_S_parts d [.int x] h n 0 0 (fun r h' n' => r = .inl (some (.int (et_pt x))) ∧ n' = n ∧ h' = h) := by
  refine et_Cn.of 0 rfl rfl (by decide) mS_S_parts.1 ?_
  refine et_iload_n (i := 0) d_S_parts_0 rfl rfl ?_
  by_cases e33 : x = 33
  · subst e33
    refine et_lookup (tgt := 78) d_S_parts_1 (by decide) (show _ = (77 : Int) by decide) (by decide) ?_
    refine et_iconst (v := 1) d_S_parts_78 (by decide) ?_
    exact et_iret d_S_parts_79 rfl (Nat.le_of_ble_eq_true rfl) (Nat.le_of_ble_eq_true rfl) ⟨by decide, rfl, rfl⟩
  by_cases e42 : x = 42
  · subst e42
    refine et_lookup (tgt := 76) d_S_parts_1 (by decide) (show _ = (75 : Int) by decide) (by decide) ?_
    refine et_iconst (v := 2) d_S_parts_76 (by decide) ?_
    exact et_iret d_S_parts_77 rfl (Nat.le_of_ble_eq_true rfl) (Nat.le_of_ble_eq_true rfl) ⟨by decide, rfl, rfl⟩
  by_cases e43 : x = 43
  · subst e43
    refine et_lookup (tgt := 76) d_S_parts_1 (by decide) (show _ = (75 : Int) by decide) (by decide) ?_
    refine et_iconst (v := 2) d_S_parts_76 (by decide) ?_
    exact et_iret d_S_parts_77 rfl (Nat.le_of_ble_eq_true rfl) (Nat.le_of_ble_eq_true rfl) ⟨by decide, rfl, rfl⟩
  by_cases e45 : x = 45
  · subst e45
    refine et_lookup (tgt := 78) d_S_parts_1 (by decide) (show _ = (77 : Int) by decide) (by decide) ?_
    refine et_iconst (v := 1) d_S_parts_78 (by decide) ?_
    exact et_iret d_S_parts_79 rfl (Nat.le_of_ble_eq_true rfl) (Nat.le_of_ble_eq_true rfl) ⟨by decide, rfl, rfl⟩
  by_cases e94 : x = 94
  · subst e94
    refine et_lookup (tgt := 76) d_S_parts_1 (by decide) (show _ = (75 : Int) by decide) (by decide) ?_
    refine et_iconst (v := 2) d_S_parts_76 (by decide) ?_
    exact et_iret d_S_parts_77 rfl (Nat.le_of_ble_eq_true rfl) (Nat.le_of_ble_eq_true rfl) ⟨by decide, rfl, rfl⟩
  by_cases e120 : x = 120
  · subst e120
    refine et_lookup (tgt := 80) d_S_parts_1 (by decide) (show _ = (79 : Int) by decide) (by decide) ?_
    refine et_iconst (v := 0) d_S_parts_80 (by decide) ?_
    exact et_iret d_S_parts_81 rfl (Nat.le_of_ble_eq_true rfl) (Nat.le_of_ble_eq_true rfl) ⟨by decide, rfl, rfl⟩
  by_cases e121 : x = 121
  · subst e121
    refine et_lookup (tgt := 80) d_S_parts_1 (by decide) (show _ = (79 : Int) by decide) (by decide) ?_
    refine et_iconst (v := 0) d_S_parts_80 (by decide) ?_
    exact et_iret d_S_parts_81 rfl (Nat.le_of_ble_eq_true rfl) (Nat.le_of_ble_eq_true rfl) ⟨by decide, rfl, rfl⟩
  by_cases e122 : x = 122
  · subst e122
    refine et_lookup (tgt := 80) d_S_parts_1 (by decide) (show _ = (79 : Int) by decide) (by decide) ?_
    refine et_iconst (v := 0) d_S_parts_80 (by decide) ?_
    exact et_iret d_S_parts_81 rfl (Nat.le_of_ble_eq_true rfl) (Nat.le_of_ble_eq_true rfl) ⟨by decide, rfl, rfl⟩
  refine et_lookup (tgt := 82) d_S_parts_1 (by decide) (off := 81) ((lv_osw (k := 33) e33 rfl).trans ((lv_osw (k := 42) e42 rfl).trans ((lv_osw (k := 43) e43 rfl).trans ((lv_osw (k := 45) e45 rfl).trans ((lv_osw (k := 94) e94 rfl).trans ((lv_osw (k := 120) e120 rfl).trans ((lv_osw (k := 121) e121 rfl).trans ((lv_osw (k := 122) e122 rfl).trans rfl)))))))) (by decide) ?_
  have ept : et_pt x = if 48 ≤ x ∧ x ≤ 57 then 0 else -1 := by simp [et_pt, e33, e42, e43, e45, e94, e120, e121, e122]
  rw [ept]
  refine et_iload_n (i := 0) d_S_parts_82 rfl rfl ?_
  refine et_bipush (v := 48) d_S_parts_83 (by decide) ?_
  refine et_icmp_lt (tgt := 98) d_S_parts_85 (by decide) (fun q1 => ?_) (fun q1 => ?_)
  · refine et_iconst (v := (-1)) d_S_parts_98 (by decide) ?_
    exact et_iret d_S_parts_99 rfl (Nat.le_of_ble_eq_true rfl) (Nat.le_of_ble_eq_true rfl) ⟨by rw [if_neg (fun z => absurd z.1 (Int32.not_le.mpr q1))], rfl, rfl⟩
  refine et_iload_n (i := 0) d_S_parts_88 rfl rfl ?_
  refine et_bipush (v := 57) d_S_parts_89 (by decide) ?_
  refine et_icmp_gt (tgt := 98) d_S_parts_91 (by decide) (fun q2 => ?_) (fun q2 => ?_)
  · refine et_iconst (v := (-1)) d_S_parts_98 (by decide) ?_
    exact et_iret d_S_parts_99 rfl (Nat.le_of_ble_eq_true rfl) (Nat.le_of_ble_eq_true rfl) ⟨by rw [if_neg (fun z => absurd z.2 (Int32.not_le.mpr q2))], rfl, rfl⟩
  refine et_iconst (v := 0) d_S_parts_94 (by decide) ?_
  refine et_goto (tgt := 99) d_S_parts_95 (by decide) ?_
  exact et_iret d_S_parts_99 rfl (Nat.le_of_ble_eq_true rfl) (Nat.le_of_ble_eq_true rfl) ⟨by rw [if_pos ⟨Int32.not_lt.mp q1, Int32.not_lt.mp q2⟩], rfl, rfl⟩
theorem et_pt_in {x : Int32} (h : ¬ et_pt x = -1) : vp_in x 127 := by
  by_cases e33 : x = 33
  · subst e33; exact (vp_in_iff.mpr ⟨by decide, by decide⟩)
  by_cases e42 : x = 42
  · subst e42; exact (vp_in_iff.mpr ⟨by decide, by decide⟩)
  by_cases e43 : x = 43
  · subst e43; exact (vp_in_iff.mpr ⟨by decide, by decide⟩)
  by_cases e45 : x = 45
  · subst e45; exact (vp_in_iff.mpr ⟨by decide, by decide⟩)
  by_cases e94 : x = 94
  · subst e94; exact (vp_in_iff.mpr ⟨by decide, by decide⟩)
  by_cases e120 : x = 120
  · subst e120; exact (vp_in_iff.mpr ⟨by decide, by decide⟩)
  by_cases e121 : x = 121
  · subst e121; exact (vp_in_iff.mpr ⟨by decide, by decide⟩)
  by_cases e122 : x = 122
  · subst e122; exact (vp_in_iff.mpr ⟨by decide, by decide⟩)
  by_cases e : 48 ≤ x ∧ x ≤ 57
  · have c1 := et_le_i e.1
    have c2 := et_le_i e.2
    have a1 : (48 : Int32).toInt = 48 := rfl
    have a2 : (57 : Int32).toInt = 57 := rfl
    exact vp_in_iff.mpr ⟨by omega, by omega⟩
  · exact absurd (by simp [et_pt, e33, e42, e43, e45, e94, e120, e121, e122, e]) h
set_option maxHeartbeats 4000000 in
set_option maxRecDepth 100000 in
theorem c_E_price {sc : et_X} {h : Nat → et_MC} {d n : Nat} {rc : Int32} {g : Nat → Int32} (x y : Int32) (f0 : h 0 = .inr (6, [.ref 1, .ref 3, .ref 10, .ref 13, .ref 17, .ref 63, .int rc])) (h17 : h 17 = .inr (0, [.ref 18, .ref 19, .ref 20, .ref 21, .ref 3, .ref 62])) (h18 : h 18 = .inl (0, 127, .inl g)) : et_Cn sc Y_E_price (d + 1) [.ref 0, .int x, .int y] h n 1 6 (fun r h' n' => (¬ (¬ et_pt x = -1 ∧ 1 ≤ y ∧ y ≤ 1000000000) ∧ r = .inr 0 ∧ n' = n + 1 ∧ h' = va_up h n et_void) ∨ ((¬ et_pt x = -1 ∧ 1 ≤ y ∧ y ≤ 1000000000) ∧ r = .inl none ∧ n' = n ∧ h' = va_up h 18 (.inl (0, 127, .inl (upd g x.toNatClampNeg y))))) := by
  refine et_Cn.of 0 rfl rfl (by decide) mV_E_price.1 ?_
  refine et_iload_n (i := 1) d_E_price_0 rfl rfl ?_
  refine et_invS mS_S_parts (As := [_]) rfl d_E_price_1 lk_E_128 len_S_parts (Nat.le_of_ble_eq_true rfl) (c_S_parts (d := d) x) (Nat.le_refl _) (Nat.le_of_ble_eq_true rfl) (Nat.le_of_ble_eq_true rfl) (fun v h' n' hp => ?_) (fun x h' n' hp => by cases hp.1)
  obtain ⟨hv, rfl, rfl⟩ := hp
  cases hv
  refine et_iconst (v := (-1)) d_E_price_4 (by decide) ?_
  refine et_icmp_ne (tgt := 18) d_E_price_5 (by decide) (fun q1 => ?_) (fun q1 => ?_)
  rotate_left
  · exact et_throw (x := 0) "no sign of a term" d_E_price_8 d_E_price_11 d_E_price_12 d_E_price_14 d_E_price_17 (by decide +kernel) cl_E_79 ini_IllegalArgumentException ins_IllegalArgumentException thr_0 (by decide +kernel) rfl (Nat.le_of_ble_eq_true rfl) (Nat.le_of_ble_eq_true rfl) (Nat.le_of_ble_eq_true rfl) (Or.inl ⟨fun z => z.1 q1, rfl, rfl, rfl⟩)
  refine et_iload_n (i := 2) d_E_price_18 rfl rfl ?_
  refine et_iconst (v := 1) d_E_price_19 (by decide) ?_
  refine et_icmp_lt (tgt := 29) d_E_price_20 (by decide) (fun q2 => ?_) (fun q2 => ?_)
  · exact et_throw (x := 0) "no price" d_E_price_29 d_E_price_32 d_E_price_33 d_E_price_35 d_E_price_38 (by decide +kernel) cl_E_79 ini_IllegalArgumentException ins_IllegalArgumentException thr_0 (by decide +kernel) rfl (Nat.le_of_ble_eq_true rfl) (Nat.le_of_ble_eq_true rfl) (Nat.le_of_ble_eq_true rfl) (Or.inl ⟨fun z => absurd z.2.1 (Int32.not_le.mpr q2), rfl, rfl, rfl⟩)
  refine et_iload_n (i := 2) d_E_price_23 rfl rfl ?_
  refine et_ldc d_E_price_24 kc_E_136 ?_
  refine et_icmp_le (tgt := 39) d_E_price_26 (by decide) (fun q3 => ?_) (fun q3 => ?_)
  rotate_left
  · exact et_throw (x := 0) "no price" d_E_price_29 d_E_price_32 d_E_price_33 d_E_price_35 d_E_price_38 (by decide +kernel) cl_E_79 ini_IllegalArgumentException ins_IllegalArgumentException thr_0 (by decide +kernel) rfl (Nat.le_of_ble_eq_true rfl) (Nat.le_of_ble_eq_true rfl) (Nat.le_of_ble_eq_true rfl) (Or.inl ⟨fun z => q3 z.2.2, rfl, rfl, rfl⟩)
  refine et_aload_n (i := 0) d_E_price_39 rfl rfl ?_
  refine et_getf (ci := 6) 4 d_E_price_40 f0 rfl in_E (by decide) fl_E_44 rfl ?_
  refine et_getf (ci := 0) 0 d_E_price_43 h17 rfl in_C (by decide) fl_E_139 rfl ?_
  refine et_iload_n (i := 1) d_E_price_46 rfl rfl ?_
  refine et_iload_n (i := 2) d_E_price_47 rfl rfl ?_
  refine et_iast d_E_price_48 h18 (et_pt_in q1) ?_
  exact et_vret d_E_price_49 rfl (Nat.le_of_ble_eq_true rfl) (Nat.le_of_ble_eq_true rfl) (Or.inr ⟨⟨q1, Int32.not_lt.mp q2, q3⟩, rfl, rfl, rfl⟩)
set_option maxHeartbeats 4000000 in
set_option maxRecDepth 100000 in
theorem c0_R_listNodes {sc : et_X} {h : Nat → et_MC} {d n : Nat} {f : Nat → Int32} (h3 : h 3 = .inr (1, [.ref 4, .ref 5, .ref 6, .ref 7, .int 0, .int 0, .ref 8, .ref 9])) {ch : Int32} (h13 : h 13 = .inr (2, [.int ch, .ref 3, .ref 10, .ref 14, .ref 15, .ref 16])) (h16 : h 16 = .inl (0, 41, .inl f)) : et_Cn sc Y_R_listNodes d [.ref 13] h n 0 0 (fun r h' n' => r = .inl none ∧ n' = n ∧ h' = va_up h 16 (.inl (0, 41, .inl (upd f 0 0)))) := by
  refine et_Cn.of 3 rfl rfl (by decide) mV_R_listNodes.1 ?_
  refine et_iconst (v := 0) d_R_listNodes_0 (by decide) ?_
  refine et_istore_n (i := 1) (lv' := [_, _, _, _]) d_R_listNodes_1 rfl (by decide) rfl rfl ?_
  refine et_iconst (v := 0) d_R_listNodes_2 (by decide) ?_
  refine et_istore_n (i := 2) (lv' := [_, _, _, _]) d_R_listNodes_3 rfl (by decide) rfl rfl ?_
  refine et_iload_n (i := 2) d_R_listNodes_4 rfl rfl ?_
  refine et_aload_n (i := 0) d_R_listNodes_5 rfl rfl ?_
  refine et_getf (ci := 2) 1 d_R_listNodes_6 h13 rfl in_R (by decide) fl_R_25 rfl ?_
  refine et_getf (ci := 1) 5 d_R_listNodes_9 h3 rfl in_G (by decide) fl_R_39 rfl ?_
  refine et_icmp_ge (tgt := 70) d_R_listNodes_12 (by decide) (fun _ => ?_) (fun q => absurd (by decide) q)
  refine et_aload_n (i := 0) d_R_listNodes_70 rfl rfl ?_
  refine et_getf (ci := 2) 5 d_R_listNodes_71 h13 rfl in_R (by decide) fl_R_22 rfl ?_
  refine et_aload_n (i := 0) d_R_listNodes_74 rfl rfl ?_
  refine et_getf (ci := 2) 1 d_R_listNodes_75 h13 rfl in_R (by decide) fl_R_25 rfl ?_
  refine et_getf (ci := 1) 5 d_R_listNodes_78 h3 rfl in_G (by decide) fl_R_39 rfl ?_
  refine et_iload_n (i := 1) d_R_listNodes_81 rfl rfl ?_
  refine et_iast d_R_listNodes_82 h16 (vp_in_iff.mpr ⟨by decide, by decide⟩) ?_
  exact et_vret d_R_listNodes_83 rfl (Nat.le_of_ble_eq_true rfl) (Nat.le_of_ble_eq_true rfl) ⟨rfl, rfl, rfl⟩
set_option maxHeartbeats 4000000 in
set_option maxRecDepth 100000 in
theorem c0_R_fitAll {sc : et_X} {h : Nat → et_MC} {d n : Nat} {f : Nat → Int32} (h3 : h 3 = .inr (1, [.ref 4, .ref 5, .ref 6, .ref 7, .int 0, .int 0, .ref 8, .ref 9])) {ch : Int32} (h13 : h 13 = .inr (2, [.int ch, .ref 3, .ref 10, .ref 14, .ref 15, .ref 16])) (h16 : h 16 = .inl (0, 41, .inl f)) : et_Cn sc Y_R_fitAll (d + 1) [.ref 13, .ref 63, .int 0] h n 0 0 (fun r h' n' => r = .inl (some (.int 1)) ∧ n' = n ∧ h' 13 = .inr (2, [.int 0, .ref 3, .ref 10, .ref 14, .ref 15, .ref 16]) ∧ ∀ k, k ≠ 13 → k ≠ 16 → h' k = h k) := by
  refine et_Cn.of 4 rfl rfl (by decide) mV_R_fitAll.1 ?_
  refine et_aload_n (i := 0) d_R_fitAll_0 rfl rfl ?_
  refine et_getf (ci := 2) 1 d_R_fitAll_1 h13 rfl in_R (by decide) fl_R_25 rfl ?_
  refine et_getf (ci := 1) 4 d_R_fitAll_4 h3 rfl in_G (by decide) fl_R_33 rfl ?_
  refine et_istore_n (i := 3) (lv' := [_, _, _, _, _, _, _]) d_R_fitAll_7 rfl (by decide) rfl rfl ?_
  refine et_aload_n (i := 0) d_R_fitAll_8 rfl rfl ?_
  refine et_getf (ci := 2) 1 d_R_fitAll_9 h13 rfl in_R (by decide) fl_R_25 rfl ?_
  refine et_getf (ci := 1) 5 d_R_fitAll_12 h3 rfl in_G (by decide) fl_R_39 rfl ?_
  refine et_istore (lv' := [_, _, _, _, _, _, _]) d_R_fitAll_15 (by decide) rfl rfl ?_
  refine et_aload_n (i := 0) d_R_fitAll_17 rfl rfl ?_
  refine et_invV mV_R_listNodes (As := []) rfl d_R_fitAll_18 lk_R_42 len_R_listNodes h13 rfl (Nat.le_of_ble_eq_true rfl) (c0_R_listNodes (d := d) h3 h13 h16) (Nat.le_refl _) (Nat.le_of_ble_eq_true rfl) (Nat.le_of_ble_eq_true rfl) (fun v h' n' hp => ?_) (fun x h' n' hp => by cases hp.1)
  obtain ⟨hv, rfl, rfl⟩ := hp
  cases hv
  refine et_aload_n (i := 0) d_R_fitAll_21 rfl rfl ?_
  refine et_iconst (v := 0) d_R_fitAll_22 (by decide) ?_
  refine et_putf (ci := 2) 0 d_R_fitAll_23 h13 rfl in_R ty_R nm_R (by decide) fl_R_9 rfl rfl (fun _ => rfl) (fun _ => rfl) (Nat.le_of_ble_eq_true rfl) (fs' := [_, _, _, _, _, _]) rfl ?_
  refine et_iconst (v := 0) d_R_fitAll_26 (by decide) ?_
  refine et_istore (lv' := [_, _, _, _, _, _, _]) d_R_fitAll_27 (by decide) rfl rfl ?_
  refine et_iload d_R_fitAll_29 rfl ?_
  refine et_iload_n (i := 2) d_R_fitAll_31 rfl rfl ?_
  refine et_icmp_ge (tgt := 89) d_R_fitAll_32 (by decide) (fun _ => ?_) (fun q => absurd (by decide) q)
  refine et_aload_n (i := 0) d_R_fitAll_89 rfl rfl ?_
  refine et_getf (ci := 2) 0 d_R_fitAll_90 rfl rfl in_R (by decide) fl_R_9 rfl ?_
  refine et_if_eq (tgt := 103) d_R_fitAll_93 (by decide) (fun _ => ?_) (fun q => absurd (by decide) q)
  refine et_iconst (v := 1) d_R_fitAll_103 (by decide) ?_
  exact et_zret d_R_fitAll_104 rfl rfl (Nat.le_of_ble_eq_true rfl) (Nat.le_of_ble_eq_true rfl) ⟨rfl, rfl, rfl, fun k e1 e2 => by simp [va_up, e1, e2]⟩
set_option maxHeartbeats 4000000 in
set_option maxRecDepth 100000 in
theorem c0_E_rounds {sc : et_X} {h : Nat → et_MC} {d n : Nat} {f : Nat → Int32} (x : Int32) (f0 : h 0 = .inr (6, [.ref 1, .ref 3, .ref 10, .ref 13, .ref 17, .ref 63, .int 0])) (h3 : h 3 = .inr (1, [.ref 4, .ref 5, .ref 6, .ref 7, .int 0, .int 0, .ref 8, .ref 9])) {ch : Int32} (h13 : h 13 = .inr (2, [.int ch, .ref 3, .ref 10, .ref 14, .ref 15, .ref 16])) (h16 : h 16 = .inl (0, 41, .inl f)) : et_Cn sc Y_E_rounds (d + 2) [.ref 0, .int x] h n 1 6 (fun r h' n' => (¬ (0 ≤ x ∧ x ≤ 20) ∧ r = .inr 0 ∧ n' = n + 1 ∧ h' = va_up h n et_void) ∨ ((0 ≤ x ∧ x ≤ 20) ∧ r = .inl (some (.int 0)) ∧ n' = n ∧ ∀ k, k ≠ 13 → k ≠ 16 → h' k = h k)) := by
  refine et_Cn.of 2 rfl rfl (by decide) mV_E_rounds.1 ?_
  refine et_iload_n (i := 1) d_E_rounds_0 rfl rfl ?_
  refine et_if_lt (tgt := 10) d_E_rounds_1 (by decide) (fun q1 => ?_) (fun q1 => ?_)
  · exact et_throw (x := 0) "no number of rounds" d_E_rounds_10 d_E_rounds_13 d_E_rounds_14 d_E_rounds_16 d_E_rounds_19 (by decide +kernel) cl_E_79 ini_IllegalArgumentException ins_IllegalArgumentException thr_0 (by decide +kernel) rfl (Nat.le_of_ble_eq_true rfl) (Nat.le_of_ble_eq_true rfl) (Nat.le_of_ble_eq_true rfl) (Or.inl ⟨fun z => absurd z.1 (Int32.not_le.mpr q1), rfl, rfl, rfl⟩)
  refine et_iload_n (i := 1) d_E_rounds_4 rfl rfl ?_
  refine et_bipush (v := 20) d_E_rounds_5 (by decide) ?_
  refine et_icmp_le (tgt := 20) d_E_rounds_7 (by decide) (fun q2 => ?_) (fun q2 => ?_)
  rotate_left
  · exact et_throw (x := 0) "no number of rounds" d_E_rounds_10 d_E_rounds_13 d_E_rounds_14 d_E_rounds_16 d_E_rounds_19 (by decide +kernel) cl_E_79 ini_IllegalArgumentException ins_IllegalArgumentException thr_0 (by decide +kernel) rfl (Nat.le_of_ble_eq_true rfl) (Nat.le_of_ble_eq_true rfl) (Nat.le_of_ble_eq_true rfl) (Or.inl ⟨fun z => q2 z.2, rfl, rfl, rfl⟩)
  refine et_iconst (v := 0) d_E_rounds_20 (by decide) ?_
  refine et_istore_n (i := 2) (lv' := [_, _, _, _]) d_E_rounds_21 rfl (by decide) rfl rfl ?_
  refine et_iconst (v := 0) d_E_rounds_22 (by decide) ?_
  refine et_istore_n (i := 3) (lv' := [_, _, _, _]) d_E_rounds_23 rfl (by decide) rfl rfl ?_
  refine et_iload_n (i := 3) d_E_rounds_24 rfl rfl ?_
  refine et_iload_n (i := 1) d_E_rounds_25 rfl rfl ?_
  refine et_icmp_ge (tgt := 71) d_E_rounds_26 (by decide) (fun q3 => ?_) (fun q3 => ?_)
  · refine et_iload_n (i := 2) d_E_rounds_71 rfl rfl ?_
    exact et_iret d_E_rounds_72 rfl (Nat.le_of_ble_eq_true rfl) (Nat.le_of_ble_eq_true rfl) (Or.inr ⟨⟨Int32.not_lt.mp q1, q2⟩, rfl, rfl, fun k _ _ => rfl⟩)
  refine et_aload_n (i := 0) d_E_rounds_29 rfl rfl ?_
  refine et_getf (ci := 6) 3 d_E_rounds_30 f0 rfl in_E (by decide) fl_E_37 rfl ?_
  refine et_aload_n (i := 0) d_E_rounds_33 rfl rfl ?_
  refine et_getf (ci := 6) 5 d_E_rounds_34 f0 rfl in_E (by decide) fl_E_50 rfl ?_
  refine et_aload_n (i := 0) d_E_rounds_37 rfl rfl ?_
  refine et_getf (ci := 6) 6 d_E_rounds_38 f0 rfl in_E (by decide) fl_E_54 rfl ?_
  refine et_invV mV_R_fitAll (As := [_, _]) rfl d_E_rounds_41 lk_E_144 len_R_fitAll h13 rfl (Nat.le_of_ble_eq_true rfl) (c0_R_fitAll (d := d) h3 h13 h16) (Nat.le_refl _) (Nat.le_of_ble_eq_true rfl) (Nat.le_of_ble_eq_true rfl) (fun v ha n' hp => ?_) (fun x h' n' hp => by cases hp.1)
  obtain ⟨hv, rfl, g13, fr⟩ := hp
  cases hv
  have f0 := (fr 0 (by decide) (by decide)).trans f0
  refine et_if_ne (tgt := 50) d_E_rounds_44 (by decide) (fun _ => ?_) (fun q => absurd q (by decide))
  refine et_aload_n (i := 0) d_E_rounds_50 rfl rfl ?_
  refine et_getf (ci := 6) 3 d_E_rounds_51 f0 rfl in_E (by decide) fl_E_37 rfl ?_
  refine et_getf (ci := 2) 0 d_E_rounds_54 g13 rfl in_R (by decide) fl_E_148 rfl ?_
  refine et_if_ne (tgt := 62) d_E_rounds_57 (by decide) (fun q => absurd (by decide) q) (fun _ => ?_)
  refine et_iload_n (i := 2) d_E_rounds_60 rfl rfl ?_
  exact et_iret d_E_rounds_61 rfl (Nat.le_of_ble_eq_true rfl) (Nat.le_of_ble_eq_true rfl) (Or.inr ⟨⟨Int32.not_lt.mp q1, q2⟩, rfl, rfl, fr⟩)
end
section
/-- the model's own cell -/
abbrev et_Mo (th le a_ wr en al se ru nd cs un rs : Int32) (dc ds : Int64) : et_MC := .inr (7, [.int th, .ref 65, .int le, .int a_, .int wr, .int en, .int al, .int se, .int ru, .ref 66, .ref 67, .int nd, .int cs, .ref 68, .ref 69, .ref 70, .ref 71, .ref 72, .ref 73, .int un, .ref 74, .int rs, .ref 75, .ref 76, .ref 77, .ref 78, .ref 79, .ref 80, .ref 81, .ref 82, .ref 83, .long dc, .long ds])
/-- the cells of a new model -/
def et_M0 (h : Nat → et_MC) : Prop := h 64 = et_Mo 0 0 0 (-1) 0 0 0 0 0 0 0 0 0 0 ∧ h 65 = .inl (0, 60, .inl (fun _ => 0)) ∧ h 66 = .inl (0, 84, .inl (fun _ => 0)) ∧ h 67 = .inl (0, 12, .inl (fun _ => 0)) ∧ h 68 = .inl (0, 104, .inl (fun _ => 0)) ∧ h 69 = .inl (0, 104, .inl (fun _ => 0)) ∧ h 70 = .inl (0, 104, .inl (fun _ => 0)) ∧ h 71 = .inl (0, 104, .inl (fun _ => 0)) ∧ h 72 = .inl (0, 104, .inl (fun _ => 0)) ∧ h 73 = .inl (0, 104, .inl (fun _ => 0)) ∧ h 74 = .inl (0, 62, .inl (fun _ => 0)) ∧ h 75 = .inl (0, 3, .inl (fun _ => 0)) ∧ h 76 = .inl (0, 128, .inl (fun _ => 0)) ∧ h 77 = .inl (0, 80, .inl (fun _ => 0)) ∧ h 78 = .inl (0, 4800, .inl (fun _ => 0)) ∧ h 80 = .inl (1, 104, .inr (.inl (fun _ => 0))) ∧ h 81 = .inl (1, 104, .inr (.inl (fun _ => 0))) ∧ h 82 = .inl (0, 6240, .inl (fun _ => 0)) ∧ h 83 = .inl (0, 60, .inl (fun _ => 0)) ∧ ∃ g : Nat → Int32, h 79 = .inl (0, 128, .inl g) ∧ ∀ j, j < 128 → g j = 1
set_option maxHeartbeats 4000000 in
set_option maxRecDepth 100000 in
theorem c_M_init {sc : et_X} {h : Nat → et_MC} {d : Nat} (h64 : h 64 = .inr (7, [.int 0, .null, .int 0, .int 0, .int 0, .int 0, .int 0, .int 0, .int 0, .null, .null, .int 0, .int 0, .null, .null, .null, .null, .null, .null, .int 0, .null, .int 0, .null, .null, .null, .null, .null, .null, .null, .null, .null, .long 0, .long 0])) : et_Cn sc Y_M_init d [.ref 64] h 65 19 12489 (fun r h' n' => r = .inl none ∧ n' = 84 ∧ et_M0 h' ∧ ∀ k, k < 64 → h' k = h k) := by
  refine et_Cn.of 1 rfl rfl (by decide) mI_M_init.1 ?_
  refine et_aload_n (i := 0) d_M_init_0 rfl rfl ?_
  refine et_objInit d_M_init_1 ml_M_1 ob_inst ob_code (Nat.le_of_ble_eq_true rfl) ?_
  refine et_aload_n (i := 0) d_M_init_4 rfl rfl ?_
  refine et_bipush (v := 60) d_M_init_5 (by decide) ?_
  refine et_newi (N := 60) d_M_init_7 rfl ac_int (by decide) (by decide) (by decide) (Nat.le_of_ble_eq_true rfl) (Nat.le_of_ble_eq_true rfl) ?_
  refine et_putF (ci := 7) 1 d_M_init_9 h64 rfl in_M ty_M nm_M (by decide) fl_M_7 rfl rfl rfl rfl (fun _ => rfl) (fun _ => rfl) (Nat.le_of_ble_eq_true rfl) (fs' := [_, _, _, _, _, _, _, _, _, _, _, _, _, _, _, _, _, _, _, _, _, _, _, _, _, _, _, _, _, _, _, _, _]) rfl ?_
  refine et_aload_n (i := 0) d_M_init_12 rfl rfl ?_
  refine et_iconst (v := (-1)) d_M_init_13 (by decide) ?_
  refine et_putf (ci := 7) 4 d_M_init_14 rfl rfl in_M ty_M nm_M (by decide) fl_M_13 rfl rfl (fun _ => rfl) (fun _ => rfl) (Nat.le_of_ble_eq_true rfl) (fs' := [_, _, _, _, _, _, _, _, _, _, _, _, _, _, _, _, _, _, _, _, _, _, _, _, _, _, _, _, _, _, _, _, _]) rfl ?_
  refine et_aload_n (i := 0) d_M_init_17 rfl rfl ?_
  refine et_bipush (v := 84) d_M_init_18 (by decide) ?_
  refine et_newi (N := 84) d_M_init_20 rfl ac_int (by decide) (by decide) (by decide) (Nat.le_of_ble_eq_true rfl) (Nat.le_of_ble_eq_true rfl) ?_
  refine et_putF (ci := 7) 9 d_M_init_22 rfl rfl in_M ty_M nm_M (by decide) fl_M_17 rfl rfl rfl rfl (fun _ => rfl) (fun _ => rfl) (Nat.le_of_ble_eq_true rfl) (fs' := [_, _, _, _, _, _, _, _, _, _, _, _, _, _, _, _, _, _, _, _, _, _, _, _, _, _, _, _, _, _, _, _, _]) rfl ?_
  refine et_aload_n (i := 0) d_M_init_25 rfl rfl ?_
  refine et_bipush (v := 12) d_M_init_26 (by decide) ?_
  refine et_newi (N := 12) d_M_init_28 rfl ac_int (by decide) (by decide) (by decide) (Nat.le_of_ble_eq_true rfl) (Nat.le_of_ble_eq_true rfl) ?_
  refine et_putF (ci := 7) 10 d_M_init_30 rfl rfl in_M ty_M nm_M (by decide) fl_M_20 rfl rfl rfl rfl (fun _ => rfl) (fun _ => rfl) (Nat.le_of_ble_eq_true rfl) (fs' := [_, _, _, _, _, _, _, _, _, _, _, _, _, _, _, _, _, _, _, _, _, _, _, _, _, _, _, _, _, _, _, _, _]) rfl ?_
  refine et_aload_n (i := 0) d_M_init_33 rfl rfl ?_
  refine et_bipush (v := 104) d_M_init_34 (by decide) ?_
  refine et_newi (N := 104) d_M_init_36 rfl ac_int (by decide) (by decide) (by decide) (Nat.le_of_ble_eq_true rfl) (Nat.le_of_ble_eq_true rfl) ?_
  refine et_putF (ci := 7) 13 d_M_init_38 rfl rfl in_M ty_M nm_M (by decide) fl_M_23 rfl rfl rfl rfl (fun _ => rfl) (fun _ => rfl) (Nat.le_of_ble_eq_true rfl) (fs' := [_, _, _, _, _, _, _, _, _, _, _, _, _, _, _, _, _, _, _, _, _, _, _, _, _, _, _, _, _, _, _, _, _]) rfl ?_
  refine et_aload_n (i := 0) d_M_init_41 rfl rfl ?_
  refine et_bipush (v := 104) d_M_init_42 (by decide) ?_
  refine et_newi (N := 104) d_M_init_44 rfl ac_int (by decide) (by decide) (by decide) (Nat.le_of_ble_eq_true rfl) (Nat.le_of_ble_eq_true rfl) ?_
  refine et_putF (ci := 7) 14 d_M_init_46 rfl rfl in_M ty_M nm_M (by decide) fl_M_26 rfl rfl rfl rfl (fun _ => rfl) (fun _ => rfl) (Nat.le_of_ble_eq_true rfl) (fs' := [_, _, _, _, _, _, _, _, _, _, _, _, _, _, _, _, _, _, _, _, _, _, _, _, _, _, _, _, _, _, _, _, _]) rfl ?_
  refine et_aload_n (i := 0) d_M_init_49 rfl rfl ?_
  refine et_bipush (v := 104) d_M_init_50 (by decide) ?_
  refine et_newi (N := 104) d_M_init_52 rfl ac_int (by decide) (by decide) (by decide) (Nat.le_of_ble_eq_true rfl) (Nat.le_of_ble_eq_true rfl) ?_
  refine et_putF (ci := 7) 15 d_M_init_54 rfl rfl in_M ty_M nm_M (by decide) fl_M_29 rfl rfl rfl rfl (fun _ => rfl) (fun _ => rfl) (Nat.le_of_ble_eq_true rfl) (fs' := [_, _, _, _, _, _, _, _, _, _, _, _, _, _, _, _, _, _, _, _, _, _, _, _, _, _, _, _, _, _, _, _, _]) rfl ?_
  refine et_aload_n (i := 0) d_M_init_57 rfl rfl ?_
  refine et_bipush (v := 104) d_M_init_58 (by decide) ?_
  refine et_newi (N := 104) d_M_init_60 rfl ac_int (by decide) (by decide) (by decide) (Nat.le_of_ble_eq_true rfl) (Nat.le_of_ble_eq_true rfl) ?_
  refine et_putF (ci := 7) 16 d_M_init_62 rfl rfl in_M ty_M nm_M (by decide) fl_M_32 rfl rfl rfl rfl (fun _ => rfl) (fun _ => rfl) (Nat.le_of_ble_eq_true rfl) (fs' := [_, _, _, _, _, _, _, _, _, _, _, _, _, _, _, _, _, _, _, _, _, _, _, _, _, _, _, _, _, _, _, _, _]) rfl ?_
  refine et_aload_n (i := 0) d_M_init_65 rfl rfl ?_
  refine et_bipush (v := 104) d_M_init_66 (by decide) ?_
  refine et_newi (N := 104) d_M_init_68 rfl ac_int (by decide) (by decide) (by decide) (Nat.le_of_ble_eq_true rfl) (Nat.le_of_ble_eq_true rfl) ?_
  refine et_putF (ci := 7) 17 d_M_init_70 rfl rfl in_M ty_M nm_M (by decide) fl_M_35 rfl rfl rfl rfl (fun _ => rfl) (fun _ => rfl) (Nat.le_of_ble_eq_true rfl) (fs' := [_, _, _, _, _, _, _, _, _, _, _, _, _, _, _, _, _, _, _, _, _, _, _, _, _, _, _, _, _, _, _, _, _]) rfl ?_
  refine et_aload_n (i := 0) d_M_init_73 rfl rfl ?_
  refine et_bipush (v := 104) d_M_init_74 (by decide) ?_
  refine et_newi (N := 104) d_M_init_76 rfl ac_int (by decide) (by decide) (by decide) (Nat.le_of_ble_eq_true rfl) (Nat.le_of_ble_eq_true rfl) ?_
  refine et_putF (ci := 7) 18 d_M_init_78 rfl rfl in_M ty_M nm_M (by decide) fl_M_38 rfl rfl rfl rfl (fun _ => rfl) (fun _ => rfl) (Nat.le_of_ble_eq_true rfl) (fs' := [_, _, _, _, _, _, _, _, _, _, _, _, _, _, _, _, _, _, _, _, _, _, _, _, _, _, _, _, _, _, _, _, _]) rfl ?_
  refine et_aload_n (i := 0) d_M_init_81 rfl rfl ?_
  refine et_bipush (v := 62) d_M_init_82 (by decide) ?_
  refine et_newi (N := 62) d_M_init_84 rfl ac_int (by decide) (by decide) (by decide) (Nat.le_of_ble_eq_true rfl) (Nat.le_of_ble_eq_true rfl) ?_
  refine et_putF (ci := 7) 20 d_M_init_86 rfl rfl in_M ty_M nm_M (by decide) fl_M_41 rfl rfl rfl rfl (fun _ => rfl) (fun _ => rfl) (Nat.le_of_ble_eq_true rfl) (fs' := [_, _, _, _, _, _, _, _, _, _, _, _, _, _, _, _, _, _, _, _, _, _, _, _, _, _, _, _, _, _, _, _, _]) rfl ?_
  refine et_aload_n (i := 0) d_M_init_89 rfl rfl ?_
  refine et_iconst (v := 3) d_M_init_90 (by decide) ?_
  refine et_newi (N := 3) d_M_init_91 rfl ac_int (by decide) (by decide) (by decide) (Nat.le_of_ble_eq_true rfl) (Nat.le_of_ble_eq_true rfl) ?_
  refine et_putF (ci := 7) 22 d_M_init_93 rfl rfl in_M ty_M nm_M (by decide) fl_M_44 rfl rfl rfl rfl (fun _ => rfl) (fun _ => rfl) (Nat.le_of_ble_eq_true rfl) (fs' := [_, _, _, _, _, _, _, _, _, _, _, _, _, _, _, _, _, _, _, _, _, _, _, _, _, _, _, _, _, _, _, _, _]) rfl ?_
  refine et_aload_n (i := 0) d_M_init_96 rfl rfl ?_
  refine et_sipush (v := 128) d_M_init_97 (by decide) ?_
  refine et_newi (N := 128) d_M_init_100 rfl ac_int (by decide) (by decide) (by decide) (Nat.le_of_ble_eq_true rfl) (Nat.le_of_ble_eq_true rfl) ?_
  refine et_putF (ci := 7) 23 d_M_init_102 rfl rfl in_M ty_M nm_M (by decide) fl_M_47 rfl rfl rfl rfl (fun _ => rfl) (fun _ => rfl) (Nat.le_of_ble_eq_true rfl) (fs' := [_, _, _, _, _, _, _, _, _, _, _, _, _, _, _, _, _, _, _, _, _, _, _, _, _, _, _, _, _, _, _, _, _]) rfl ?_
  refine et_aload_n (i := 0) d_M_init_105 rfl rfl ?_
  refine et_bipush (v := 80) d_M_init_106 (by decide) ?_
  refine et_newi (N := 80) d_M_init_108 rfl ac_int (by decide) (by decide) (by decide) (Nat.le_of_ble_eq_true rfl) (Nat.le_of_ble_eq_true rfl) ?_
  refine et_putF (ci := 7) 24 d_M_init_110 rfl rfl in_M ty_M nm_M (by decide) fl_M_50 rfl rfl rfl rfl (fun _ => rfl) (fun _ => rfl) (Nat.le_of_ble_eq_true rfl) (fs' := [_, _, _, _, _, _, _, _, _, _, _, _, _, _, _, _, _, _, _, _, _, _, _, _, _, _, _, _, _, _, _, _, _]) rfl ?_
  refine et_aload_n (i := 0) d_M_init_113 rfl rfl ?_
  refine et_sipush (v := 4800) d_M_init_114 (by decide) ?_
  refine et_newi (N := 4800) d_M_init_117 rfl ac_int (by decide) (by decide) (by decide) (Nat.le_of_ble_eq_true rfl) (Nat.le_of_ble_eq_true rfl) ?_
  refine et_putF (ci := 7) 25 d_M_init_119 rfl rfl in_M ty_M nm_M (by decide) fl_M_53 rfl rfl rfl rfl (fun _ => rfl) (fun _ => rfl) (Nat.le_of_ble_eq_true rfl) (fs' := [_, _, _, _, _, _, _, _, _, _, _, _, _, _, _, _, _, _, _, _, _, _, _, _, _, _, _, _, _, _, _, _, _]) rfl ?_
  refine et_aload_n (i := 0) d_M_init_122 rfl rfl ?_
  refine et_sipush (v := 128) d_M_init_123 (by decide) ?_
  refine et_newi (N := 128) d_M_init_126 rfl ac_int (by decide) (by decide) (by decide) (Nat.le_of_ble_eq_true rfl) (Nat.le_of_ble_eq_true rfl) ?_
  refine et_putF (ci := 7) 26 d_M_init_128 rfl rfl in_M ty_M nm_M (by decide) fl_M_56 rfl rfl rfl rfl (fun _ => rfl) (fun _ => rfl) (Nat.le_of_ble_eq_true rfl) (fs' := [_, _, _, _, _, _, _, _, _, _, _, _, _, _, _, _, _, _, _, _, _, _, _, _, _, _, _, _, _, _, _, _, _]) rfl ?_
  refine et_aload_n (i := 0) d_M_init_131 rfl rfl ?_
  refine et_bipush (v := 104) d_M_init_132 (by decide) ?_
  refine et_newl (N := 104) d_M_init_134 rfl ac_long (by decide) (by decide) (by decide) (Nat.le_of_ble_eq_true rfl) (Nat.le_of_ble_eq_true rfl) ?_
  refine et_putF (ci := 7) 27 d_M_init_136 rfl rfl in_M ty_M nm_M (by decide) fl_M_59 rfl rfl rfl rfl (fun _ => rfl) (fun _ => rfl) (Nat.le_of_ble_eq_true rfl) (fs' := [_, _, _, _, _, _, _, _, _, _, _, _, _, _, _, _, _, _, _, _, _, _, _, _, _, _, _, _, _, _, _, _, _]) rfl ?_
  refine et_aload_n (i := 0) d_M_init_139 rfl rfl ?_
  refine et_bipush (v := 104) d_M_init_140 (by decide) ?_
  refine et_newl (N := 104) d_M_init_142 rfl ac_long (by decide) (by decide) (by decide) (Nat.le_of_ble_eq_true rfl) (Nat.le_of_ble_eq_true rfl) ?_
  refine et_putF (ci := 7) 28 d_M_init_144 rfl rfl in_M ty_M nm_M (by decide) fl_M_63 rfl rfl rfl rfl (fun _ => rfl) (fun _ => rfl) (Nat.le_of_ble_eq_true rfl) (fs' := [_, _, _, _, _, _, _, _, _, _, _, _, _, _, _, _, _, _, _, _, _, _, _, _, _, _, _, _, _, _, _, _, _]) rfl ?_
  refine et_aload_n (i := 0) d_M_init_147 rfl rfl ?_
  refine et_sipush (v := 6240) d_M_init_148 (by decide) ?_
  refine et_newi (N := 6240) d_M_init_151 rfl ac_int (by decide) (by decide) (by decide) (Nat.le_of_ble_eq_true rfl) (Nat.le_of_ble_eq_true rfl) ?_
  refine et_putF (ci := 7) 29 d_M_init_153 rfl rfl in_M ty_M nm_M (by decide) fl_M_66 rfl rfl rfl rfl (fun _ => rfl) (fun _ => rfl) (Nat.le_of_ble_eq_true rfl) (fs' := [_, _, _, _, _, _, _, _, _, _, _, _, _, _, _, _, _, _, _, _, _, _, _, _, _, _, _, _, _, _, _, _, _]) rfl ?_
  refine et_aload_n (i := 0) d_M_init_156 rfl rfl ?_
  refine et_bipush (v := 60) d_M_init_157 (by decide) ?_
  refine et_newi (N := 60) d_M_init_159 rfl ac_int (by decide) (by decide) (by decide) (Nat.le_of_ble_eq_true rfl) (Nat.le_of_ble_eq_true rfl) ?_
  refine et_putF (ci := 7) 30 d_M_init_161 rfl rfl in_M ty_M nm_M (by decide) fl_M_69 rfl rfl rfl rfl (fun _ => rfl) (fun _ => rfl) (Nat.le_of_ble_eq_true rfl) (fs' := [_, _, _, _, _, _, _, _, _, _, _, _, _, _, _, _, _, _, _, _, _, _, _, _, _, _, _, _, _, _, _, _, _]) rfl ?_
  refine et_iconst (v := 0) d_M_init_164 (by decide) ?_
  refine et_istore_n (i := 1) (lv' := [_, _]) d_M_init_165 rfl (by decide) rfl rfl ?_
  have loop : ∀ (t i : Nat) (g : Nat → Int32) (hh : Nat → et_MC), i + t = 128 → hh 64 = et_Mo 0 0 0 (-1) 0 0 0 0 0 0 0 0 0 0 → hh 79 = .inl (0, 128, .inl g) → (hh 65 = .inl (0, 60, .inl (fun _ => 0)) ∧ hh 66 = .inl (0, 84, .inl (fun _ => 0)) ∧ hh 67 = .inl (0, 12, .inl (fun _ => 0)) ∧ hh 68 = .inl (0, 104, .inl (fun _ => 0)) ∧ hh 69 = .inl (0, 104, .inl (fun _ => 0)) ∧ hh 70 = .inl (0, 104, .inl (fun _ => 0)) ∧ hh 71 = .inl (0, 104, .inl (fun _ => 0)) ∧ hh 72 = .inl (0, 104, .inl (fun _ => 0)) ∧ hh 73 = .inl (0, 104, .inl (fun _ => 0)) ∧ hh 74 = .inl (0, 62, .inl (fun _ => 0)) ∧ hh 75 = .inl (0, 3, .inl (fun _ => 0)) ∧ hh 76 = .inl (0, 128, .inl (fun _ => 0)) ∧ hh 77 = .inl (0, 80, .inl (fun _ => 0)) ∧ hh 78 = .inl (0, 4800, .inl (fun _ => 0)) ∧ hh 80 = .inl (1, 104, .inr (.inl (fun _ => 0))) ∧ hh 81 = .inl (1, 104, .inr (.inl (fun _ => 0))) ∧ hh 82 = .inl (0, 6240, .inl (fun _ => 0)) ∧ hh 83 = .inl (0, 60, .inl (fun _ => 0))) → (∀ k, k < 64 → hh k = h k) → (∀ j, j < i → g j = 1) → et_M sc Y_M_init d 19 12489 (fun r h' n' => r = .inl none ∧ n' = 84 ∧ et_M0 h' ∧ ∀ k, k < 64 → h' k = h k) 166 [some (.ref 64), some (.int (nI i))] [] hh 84 19 12489 := by
    intro t
    induction t with
    | zero =>
      intro i g hh hi k64 k79 kr fr hg
      obtain rfl : i = 128 := by omega
      refine et_iload_n (i := 1) d_M_init_166 rfl rfl ?_
      refine et_sipush (v := 128) d_M_init_167 (by decide) ?_
      refine et_icmp_ge (tgt := 186) d_M_init_170 (by decide) (fun _ => ?_) (fun q => absurd (by decide) q)
      obtain ⟨z65, z66, z67, z68, z69, z70, z71, z72, z73, z74, z75, z76, z77, z78, z80, z81, z82, z83⟩ := kr
      exact et_vret d_M_init_186 rfl (Nat.le_refl _) (Nat.le_refl _) ⟨rfl, rfl, ⟨k64, z65, z66, z67, z68, z69, z70, z71, z72, z73, z74, z75, z76, z77, z78, z80, z81, z82, z83, g, k79, hg⟩, fr⟩
    | succ t ih =>
      intro i g hh hi k64 k79 kr fr hg
      refine et_iload_n (i := 1) d_M_init_166 rfl rfl ?_
      refine et_sipush (v := 128) d_M_init_167 (by decide) ?_
      refine et_icmp_ge (tgt := 186) d_M_init_170 (by decide) (fun q => absurd q (show ¬ (128 : Int32) ≤ nI i from nI_ge (a := i) (b := 128) (by omega) (by decide))) (fun _ => ?_)
      refine et_aload_n (i := 0) d_M_init_173 rfl rfl ?_
      refine et_getf (ci := 7) 26 d_M_init_174 k64 rfl in_M (by decide) fl_M_56 rfl ?_
      refine et_iload_n (i := 1) d_M_init_177 rfl rfl ?_
      refine et_iconst (v := 1) d_M_init_178 (by decide) ?_
      refine et_iast d_M_init_179 k79 (vp_in_nI (show i < 128 by omega) (by decide)) ?_
      refine et_iinc (lv' := [_, _]) d_M_init_180 rfl (v := nI (i + 1)) (nI_1 i) (by decide) rfl rfl ?_
      refine et_goto (tgt := 166) d_M_init_183 (by decide) ?_
      refine ih (i + 1) (upd g (nI i).toNatClampNeg 1) _ (by omega) k64 rfl kr (fun k hk => ?_) (fun j hj => ?_)
      · simp only [va_up, show k ≠ 79 by omega, if_false]
        exact fr k hk
      · rw [nI_clamp (by omega)]
        by_cases e : j = i
        · rw [e, pk_us]
        · rw [pk_un e]; exact hg j (by omega)
  refine loop 128 0 (fun _ => 0) _ rfl rfl rfl ⟨rfl, rfl, rfl, rfl, rfl, rfl, rfl, rfl, rfl, rfl, rfl, rfl, rfl, rfl, rfl, rfl, rfl, rfl⟩ (fun k hk => ?_) (fun j hj => absurd hj (Nat.not_lt_zero j))
  simp [va_up, show k ≠ 64 by omega, show k ≠ 65 by omega, show k ≠ 66 by omega, show k ≠ 67 by omega, show k ≠ 68 by omega, show k ≠ 69 by omega, show k ≠ 70 by omega, show k ≠ 71 by omega, show k ≠ 72 by omega, show k ≠ 73 by omega, show k ≠ 74 by omega, show k ≠ 75 by omega, show k ≠ 76 by omega, show k ≠ 77 by omega, show k ≠ 78 by omega, show k ≠ 79 by omega, show k ≠ 80 by omega, show k ≠ 81 by omega, show k ≠ 82 by omega, show k ≠ 83 by omega]
set_option maxHeartbeats 4000000 in
set_option maxRecDepth 100000 in
theorem c_M_thrown {sc : et_X} {h : Nat → et_MC} {d n : Nat} {th : Int32} {fs : List Value} (h64 : h 64 = .inr (7, .int th :: fs)) : et_Cn sc Y_M_thrown d [.ref 64] h n 0 0 (fun r h' n' => r = .inl (some (.int th)) ∧ n' = n ∧ h' = h) := by
  refine et_Cn.of 0 rfl rfl (by decide) mV_M_thrown.1 ?_
  refine et_aload_n (i := 0) d_M_thrown_0 rfl rfl ?_
  refine et_getf (ci := 7) 0 d_M_thrown_1 h64 rfl in_M (by decide) fl_M_72 rfl ?_
  exact et_iret d_M_thrown_4 rfl (Nat.le_of_ble_eq_true rfl) (Nat.le_of_ble_eq_true rfl) ⟨rfl, rfl, rfl⟩
set_option maxHeartbeats 4000000 in
set_option maxRecDepth 100000 in
theorem c_M_refuse {sc : et_X} {h : Nat → et_MC} {d n : Nat} {th le a_ wr en al se ru nd cs un rs : Int32} {dc ds : Int64} (x : Int32) (h64 : h 64 = et_Mo th le a_ wr en al se ru nd cs un rs dc ds) : et_Cn sc Y_M_refuse d [.ref 64, .int x] h n 0 0 (fun r h' n' => r = .inl (some (.int 0)) ∧ n' = n ∧ h' = va_up h 64 (et_Mo x le a_ wr en al se ru nd cs un rs dc ds)) := by
  refine et_Cn.of 0 rfl rfl (by decide) mV_M_refuse.1 ?_
  refine et_aload_n (i := 0) d_M_refuse_0 rfl rfl ?_
  refine et_iload_n (i := 1) d_M_refuse_1 rfl rfl ?_
  refine et_putf (ci := 7) 0 d_M_refuse_2 h64 rfl in_M ty_M nm_M (by decide) fl_M_72 rfl rfl (fun _ => rfl) (fun _ => rfl) (Nat.le_of_ble_eq_true rfl) (fs' := [_, _, _, _, _, _, _, _, _, _, _, _, _, _, _, _, _, _, _, _, _, _, _, _, _, _, _, _, _, _, _, _, _]) rfl ?_
  refine et_iconst (v := 0) d_M_refuse_5 (by decide) ?_
  exact et_iret d_M_refuse_6 rfl (Nat.le_of_ble_eq_true rfl) (Nat.le_of_ble_eq_true rfl) ⟨rfl, rfl, rfl⟩
set_option maxHeartbeats 4000000 in
set_option maxRecDepth 100000 in
theorem c_M_within {sc : et_X} {h : Nat → et_MC} {d n : Nat} (x a b : Int32) : et_Cn sc Y_M_within d [.int x, .int a, .int b] h n 0 0 (fun r h' n' => r = .inl (some (.int (if a ≤ x ∧ x ≤ b then 1 else 0))) ∧ n' = n ∧ h' = h) := by
  refine et_Cn.of 0 rfl rfl (by decide) mS_M_within.1 ?_
  refine et_iload_n (i := 0) d_M_within_0 rfl rfl ?_
  refine et_iload_n (i := 1) d_M_within_1 rfl rfl ?_
  refine et_icmp_lt (tgt := 14) d_M_within_2 (by decide) (fun q1 => ?_) (fun q1 => ?_)
  · rw [if_neg (fun z => absurd z.1 (Int32.not_le.mpr q1))]
    refine et_iconst (v := 0) d_M_within_14 (by decide) ?_
    exact et_zret d_M_within_15 rfl rfl (Nat.le_of_ble_eq_true rfl) (Nat.le_of_ble_eq_true rfl) ⟨rfl, rfl, rfl⟩
  refine et_iload_n (i := 0) d_M_within_5 rfl rfl ?_
  refine et_iload_n (i := 2) d_M_within_6 rfl rfl ?_
  refine et_icmp_gt (tgt := 14) d_M_within_7 (by decide) (fun q2 => ?_) (fun q2 => ?_)
  · rw [if_neg (fun z => absurd z.2 (Int32.not_le.mpr q2))]
    refine et_iconst (v := 0) d_M_within_14 (by decide) ?_
    exact et_zret d_M_within_15 rfl rfl (Nat.le_of_ble_eq_true rfl) (Nat.le_of_ble_eq_true rfl) ⟨rfl, rfl, rfl⟩
  rw [if_pos ⟨Int32.not_lt.mp q1, Int32.not_lt.mp q2⟩]
  refine et_iconst (v := 1) d_M_within_10 (by decide) ?_
  refine et_goto (tgt := 15) d_M_within_11 (by decide) ?_
  exact et_zret d_M_within_15 rfl rfl (Nat.le_of_ble_eq_true rfl) (Nat.le_of_ble_eq_true rfl) ⟨rfl, rfl, rfl⟩
set_option maxHeartbeats 4000000 in
set_option maxRecDepth 100000 in
theorem c_M_takes {sc : et_X} {h : Nat → et_MC} {d n : Nat} (x : Int32) : et_Cn sc Y_M_takes (d + 1) [.int x] h n 0 0 (fun r h' n' => r = .inl (some (.int (et_pt x))) ∧ n' = n ∧ h' = h) := by
  refine et_Cn.of 0 rfl rfl (by decide) mS_M_takes.1 ?_
  refine et_iload_n (i := 0) d_M_takes_0 rfl rfl ?_
  refine et_bipush (v := 43) d_M_takes_1 (by decide) ?_
  refine et_icmp_eq (tgt := 18) d_M_takes_3 (by decide) (fun e43 => ?_) (fun e43 => ?_)
  · subst e43
    refine et_iconst (v := 2) d_M_takes_18 (by decide) ?_
    exact et_iret d_M_takes_19 rfl (Nat.le_of_ble_eq_true rfl) (Nat.le_of_ble_eq_true rfl) ⟨by decide, rfl, rfl⟩
  refine et_iload_n (i := 0) d_M_takes_6 rfl rfl ?_
  refine et_bipush (v := 42) d_M_takes_7 (by decide) ?_
  refine et_icmp_eq (tgt := 18) d_M_takes_9 (by decide) (fun e42 => ?_) (fun e42 => ?_)
  · subst e42
    refine et_iconst (v := 2) d_M_takes_18 (by decide) ?_
    exact et_iret d_M_takes_19 rfl (Nat.le_of_ble_eq_true rfl) (Nat.le_of_ble_eq_true rfl) ⟨by decide, rfl, rfl⟩
  refine et_iload_n (i := 0) d_M_takes_12 rfl rfl ?_
  refine et_bipush (v := 94) d_M_takes_13 (by decide) ?_
  refine et_icmp_ne (tgt := 20) d_M_takes_15 (by decide) (fun e94 => ?_) (fun e94 => ?_)
  rotate_left
  · subst e94
    refine et_iconst (v := 2) d_M_takes_18 (by decide) ?_
    exact et_iret d_M_takes_19 rfl (Nat.le_of_ble_eq_true rfl) (Nat.le_of_ble_eq_true rfl) ⟨by decide, rfl, rfl⟩
  refine et_iload_n (i := 0) d_M_takes_20 rfl rfl ?_
  refine et_bipush (v := 45) d_M_takes_21 (by decide) ?_
  refine et_icmp_eq (tgt := 32) d_M_takes_23 (by decide) (fun e45 => ?_) (fun e45 => ?_)
  · subst e45
    refine et_iconst (v := 1) d_M_takes_32 (by decide) ?_
    exact et_iret d_M_takes_33 rfl (Nat.le_of_ble_eq_true rfl) (Nat.le_of_ble_eq_true rfl) ⟨by decide, rfl, rfl⟩
  refine et_iload_n (i := 0) d_M_takes_26 rfl rfl ?_
  refine et_bipush (v := 33) d_M_takes_27 (by decide) ?_
  refine et_icmp_ne (tgt := 34) d_M_takes_29 (by decide) (fun e33 => ?_) (fun e33 => ?_)
  rotate_left
  · subst e33
    refine et_iconst (v := 1) d_M_takes_32 (by decide) ?_
    exact et_iret d_M_takes_33 rfl (Nat.le_of_ble_eq_true rfl) (Nat.le_of_ble_eq_true rfl) ⟨by decide, rfl, rfl⟩
  refine et_iload_n (i := 0) d_M_takes_34 rfl rfl ?_
  refine et_bipush (v := 48) d_M_takes_35 (by decide) ?_
  refine et_bipush (v := 57) d_M_takes_37 (by decide) ?_
  refine et_invS mS_M_within (As := [_, _, _]) rfl d_M_takes_39 lk_M_75 len_M_within (Nat.le_of_ble_eq_true rfl) (c_M_within (d := d) x 48 57) (Nat.le_refl _) (Nat.le_of_ble_eq_true rfl) (Nat.le_of_ble_eq_true rfl) (fun v h' n' hp => ?_) (fun x h' n' hp => by cases hp.1)
  obtain ⟨hv, rfl, rfl⟩ := hp
  cases hv
  by_cases e : 48 ≤ x ∧ x ≤ 57
  · rw [if_pos e]
    have hr : et_pt x = 0 := by
      have c1 := et_le_i e.1
      have c2 := et_le_i e.2
      have a1 : (48 : Int32).toInt = 48 := rfl
      have a2 : (57 : Int32).toInt = 57 := rfl
      have n1 : ¬ x = 120 := fun z => by rw [z] at c2; exact absurd c2 (by decide)
      have n2 : ¬ x = 121 := fun z => by rw [z] at c2; exact absurd c2 (by decide)
      have n3 : ¬ x = 122 := fun z => by rw [z] at c2; exact absurd c2 (by decide)
      simp [et_pt, e33, e42, e43, e45, e94, n1, n2, n3, e]
    rw [hr]
    refine et_if_ne (tgt := 56) d_M_takes_42 (by decide) (fun _ => ?_) (fun q => absurd q (by decide))
    refine et_iconst (v := 0) d_M_takes_56 (by decide) ?_
    refine et_goto (tgt := 61) d_M_takes_57 (by decide) ?_
    exact et_iret d_M_takes_61 rfl (Nat.le_of_ble_eq_true rfl) (Nat.le_of_ble_eq_true rfl) ⟨rfl, rfl, rfl⟩
  rw [if_neg e]
  refine et_if_ne (tgt := 56) d_M_takes_42 (by decide) (fun q => absurd (by decide) q) (fun _ => ?_)
  refine et_iload_n (i := 0) d_M_takes_45 rfl rfl ?_
  refine et_bipush (v := 120) d_M_takes_46 (by decide) ?_
  refine et_bipush (v := 122) d_M_takes_48 (by decide) ?_
  refine et_invS mS_M_within (As := [_, _, _]) rfl d_M_takes_50 lk_M_75 len_M_within (Nat.le_of_ble_eq_true rfl) (c_M_within (d := d) x 120 122) (Nat.le_refl _) (Nat.le_of_ble_eq_true rfl) (Nat.le_of_ble_eq_true rfl) (fun v h' n' hp => ?_) (fun x h' n' hp => by cases hp.1)
  obtain ⟨hv, rfl, rfl⟩ := hp
  cases hv
  by_cases e2 : 120 ≤ x ∧ x ≤ 122
  · rw [if_pos e2]
    have hr : et_pt x = 0 := by
      have c1 := et_le_i e2.1
      have c2 := et_le_i e2.2
      have a1 : (120 : Int32).toInt = 120 := rfl
      have a2 : (122 : Int32).toInt = 122 := rfl
      have h3 : x = 120 ∨ x = 121 ∨ x = 122 := by
        rcases (show x.toInt = 120 ∨ x.toInt = 121 ∨ x.toInt = 122 by omega) with z | z | z
        · exact Or.inl (Int32.toInt_inj.mp z)
        · exact Or.inr (Or.inl (Int32.toInt_inj.mp z))
        · exact Or.inr (Or.inr (Int32.toInt_inj.mp z))
      rcases h3 with rfl | rfl | rfl <;> decide
    rw [hr]
    refine et_if_eq (tgt := 60) d_M_takes_53 (by decide) (fun q => absurd q (by decide)) (fun _ => ?_)
    refine et_iconst (v := 0) d_M_takes_56 (by decide) ?_
    refine et_goto (tgt := 61) d_M_takes_57 (by decide) ?_
    exact et_iret d_M_takes_61 rfl (Nat.le_of_ble_eq_true rfl) (Nat.le_of_ble_eq_true rfl) ⟨rfl, rfl, rfl⟩
  rw [if_neg e2]
  have hr : et_pt x = -1 := by
    have n1 : ¬ x = 120 := fun z => e2 (by rw [z]; decide)
    have n2 : ¬ x = 121 := fun z => e2 (by rw [z]; decide)
    have n3 : ¬ x = 122 := fun z => e2 (by rw [z]; decide)
    simp [et_pt, e33, e42, e43, e45, e94, n1, n2, n3, e]
  rw [hr]
  refine et_if_eq (tgt := 60) d_M_takes_53 (by decide) (fun _ => ?_) (fun q => absurd (by decide) q)
  refine et_iconst (v := (-1)) d_M_takes_60 (by decide) ?_
  exact et_iret d_M_takes_61 rfl (Nat.le_of_ble_eq_true rfl) (Nat.le_of_ble_eq_true rfl) ⟨rfl, rfl, rfl⟩
set_option maxHeartbeats 4000000 in
set_option maxRecDepth 100000 in
theorem c_M_wipe {sc : et_X} {h : Nat → et_MC} {d n : Nat} {th le a_ wr en al se ru nd cs un rs : Int32} {dc ds : Int64} (h64 : h 64 = et_Mo th le a_ wr en al se ru nd cs un rs dc ds) : et_Cn sc Y_M_wipe d [.ref 64] h n 0 0 (fun r h' n' => r = .inl (some (.int le)) ∧ n' = n ∧ h' = va_up h 64 (et_Mo 0 0 a_ wr en al se ru nd cs un rs dc ds)) := by
  refine et_Cn.of 1 rfl rfl (by decide) mV_M_wipe.1 ?_
  refine et_aload_n (i := 0) d_M_wipe_0 rfl rfl ?_
  refine et_iconst (v := 0) d_M_wipe_1 (by decide) ?_
  refine et_putf (ci := 7) 0 d_M_wipe_2 h64 rfl in_M ty_M nm_M (by decide) fl_M_72 rfl rfl (fun _ => rfl) (fun _ => rfl) (Nat.le_of_ble_eq_true rfl) (fs' := [_, _, _, _, _, _, _, _, _, _, _, _, _, _, _, _, _, _, _, _, _, _, _, _, _, _, _, _, _, _, _, _, _]) rfl ?_
  refine et_aload_n (i := 0) d_M_wipe_5 rfl rfl ?_
  refine et_getf (ci := 7) 2 d_M_wipe_6 rfl rfl in_M (by decide) fl_M_79 rfl ?_
  refine et_istore_n (i := 1) (lv' := [_, _]) d_M_wipe_9 rfl (by decide) rfl rfl ?_
  refine et_aload_n (i := 0) d_M_wipe_10 rfl rfl ?_
  refine et_iconst (v := 0) d_M_wipe_11 (by decide) ?_
  refine et_putf (ci := 7) 2 d_M_wipe_12 rfl rfl in_M ty_M nm_M (by decide) fl_M_79 rfl rfl (fun _ => rfl) (fun _ => rfl) (Nat.le_of_ble_eq_true rfl) (fs' := [_, _, _, _, _, _, _, _, _, _, _, _, _, _, _, _, _, _, _, _, _, _, _, _, _, _, _, _, _, _, _, _, _]) rfl ?_
  refine et_iload_n (i := 1) d_M_wipe_15 rfl rfl ?_
  exact et_iret d_M_wipe_16 rfl (Nat.le_of_ble_eq_true rfl) (Nat.le_of_ble_eq_true rfl) ⟨rfl, rfl, bx_uu _ _ _ _⟩
set_option maxHeartbeats 4000000 in
set_option maxRecDepth 100000 in
theorem c_M_place {sc : et_X} {h : Nat → et_MC} {d n : Nat} {th le a_ wr en al se ru nd cs un rs : Int32} {dc ds : Int64} (h64 : h 64 = et_Mo th le a_ wr en al se ru nd cs un rs dc ds) : et_Cn sc Y_M_place d [.ref 64] h n 0 0 (fun r h' n' => r = .inl (some (.int wr)) ∧ n' = n ∧ h' = va_up h 64 (et_Mo 0 le a_ wr en al se ru nd cs un rs dc ds)) := by
  refine et_Cn.of 0 rfl rfl (by decide) mV_M_place.1 ?_
  refine et_aload_n (i := 0) d_M_place_0 rfl rfl ?_
  refine et_iconst (v := 0) d_M_place_1 (by decide) ?_
  refine et_putf (ci := 7) 0 d_M_place_2 h64 rfl in_M ty_M nm_M (by decide) fl_M_72 rfl rfl (fun _ => rfl) (fun _ => rfl) (Nat.le_of_ble_eq_true rfl) (fs' := [_, _, _, _, _, _, _, _, _, _, _, _, _, _, _, _, _, _, _, _, _, _, _, _, _, _, _, _, _, _, _, _, _]) rfl ?_
  refine et_aload_n (i := 0) d_M_place_5 rfl rfl ?_
  refine et_getf (ci := 7) 4 d_M_place_6 rfl rfl in_M (by decide) fl_M_13 rfl ?_
  exact et_iret d_M_place_9 rfl (Nat.le_of_ble_eq_true rfl) (Nat.le_of_ble_eq_true rfl) ⟨rfl, rfl, rfl⟩
set_option maxHeartbeats 4000000 in
set_option maxRecDepth 100000 in
theorem c_M_nodes {sc : et_X} {h : Nat → et_MC} {d n : Nat} {th le a_ wr en al se ru nd cs un rs : Int32} {dc ds : Int64} (h64 : h 64 = et_Mo th le a_ wr en al se ru nd cs un rs dc ds) : et_Cn sc Y_M_nodes d [.ref 64] h n 0 0 (fun r h' n' => r = .inl (some (.int nd)) ∧ n' = n ∧ h' = va_up h 64 (et_Mo 0 le a_ wr en al se ru nd cs un rs dc ds)) := by
  refine et_Cn.of 0 rfl rfl (by decide) mV_M_nodes.1 ?_
  refine et_aload_n (i := 0) d_M_nodes_0 rfl rfl ?_
  refine et_iconst (v := 0) d_M_nodes_1 (by decide) ?_
  refine et_putf (ci := 7) 0 d_M_nodes_2 h64 rfl in_M ty_M nm_M (by decide) fl_M_72 rfl rfl (fun _ => rfl) (fun _ => rfl) (Nat.le_of_ble_eq_true rfl) (fs' := [_, _, _, _, _, _, _, _, _, _, _, _, _, _, _, _, _, _, _, _, _, _, _, _, _, _, _, _, _, _, _, _, _]) rfl ?_
  refine et_aload_n (i := 0) d_M_nodes_5 rfl rfl ?_
  refine et_getf (ci := 7) 11 d_M_nodes_6 rfl rfl in_M (by decide) fl_M_119 rfl ?_
  exact et_iret d_M_nodes_9 rfl (Nat.le_of_ble_eq_true rfl) (Nat.le_of_ble_eq_true rfl) ⟨rfl, rfl, rfl⟩
set_option maxHeartbeats 4000000 in
set_option maxRecDepth 100000 in
theorem c_M_classes {sc : et_X} {h : Nat → et_MC} {d n : Nat} {th le a_ wr en al se ru nd cs un rs : Int32} {dc ds : Int64} (h64 : h 64 = et_Mo th le a_ wr en al se ru nd cs un rs dc ds) : et_Cn sc Y_M_classes d [.ref 64] h n 0 0 (fun r h' n' => r = .inl (some (.int cs)) ∧ n' = n ∧ h' = va_up h 64 (et_Mo 0 le a_ wr en al se ru nd cs un rs dc ds)) := by
  refine et_Cn.of 0 rfl rfl (by decide) mV_M_classes.1 ?_
  refine et_aload_n (i := 0) d_M_classes_0 rfl rfl ?_
  refine et_iconst (v := 0) d_M_classes_1 (by decide) ?_
  refine et_putf (ci := 7) 0 d_M_classes_2 h64 rfl in_M ty_M nm_M (by decide) fl_M_72 rfl rfl (fun _ => rfl) (fun _ => rfl) (Nat.le_of_ble_eq_true rfl) (fs' := [_, _, _, _, _, _, _, _, _, _, _, _, _, _, _, _, _, _, _, _, _, _, _, _, _, _, _, _, _, _, _, _, _]) rfl ?_
  refine et_aload_n (i := 0) d_M_classes_5 rfl rfl ?_
  refine et_getf (ci := 7) 12 d_M_classes_6 rfl rfl in_M (by decide) fl_M_126 rfl ?_
  exact et_iret d_M_classes_9 rfl (Nat.le_of_ble_eq_true rfl) (Nat.le_of_ble_eq_true rfl) ⟨rfl, rfl, rfl⟩
set_option maxHeartbeats 4000000 in
set_option maxRecDepth 100000 in
theorem c_M_character {sc : et_X} {h : Nat → et_MC} {d n : Nat} {th a_ wr en al se ru nd cs un rs : Int32} {dc ds : Int64} {sz : Nat} {f : Nat → Int32} (i : Int32) (hsz : sz ≤ 60) (h64 : h 64 = et_Mo th (nI sz) a_ wr en al se ru nd cs un rs dc ds) (h65 : h 65 = .inl (0, 60, .inl f)) : et_Cn sc Y_M_character (d + 1) [.ref 64, .int i] h n 0 0 (fun r h' n' => r = .inl (some (.int (if i < 0 ∨ nI sz ≤ i then -1 else f i.toNatClampNeg))) ∧ n' = n ∧ h' = va_up h 64 (et_Mo 0 (nI sz) a_ wr en al se ru nd cs un rs dc ds)) := by
  refine et_Cn.of 0 rfl rfl (by decide) mV_M_character.1 ?_
  refine et_aload_n (i := 0) d_M_character_0 rfl rfl ?_
  refine et_iconst (v := 0) d_M_character_1 (by decide) ?_
  refine et_putf (ci := 7) 0 d_M_character_2 h64 rfl in_M ty_M nm_M (by decide) fl_M_72 rfl rfl (fun _ => rfl) (fun _ => rfl) (Nat.le_of_ble_eq_true rfl) (fs' := [_, _, _, _, _, _, _, _, _, _, _, _, _, _, _, _, _, _, _, _, _, _, _, _, _, _, _, _, _, _, _, _, _]) rfl ?_
  refine et_iload_n (i := 1) d_M_character_5 rfl rfl ?_
  refine et_iconst (v := 0) d_M_character_6 (by decide) ?_
  refine et_aload_n (i := 0) d_M_character_7 rfl rfl ?_
  refine et_getf (ci := 7) 2 d_M_character_8 rfl rfl in_M (by decide) fl_M_79 rfl ?_
  refine et_iconst (v := 1) d_M_character_11 (by decide) ?_
  refine et_isub d_M_character_12 ?_
  refine et_invS mS_M_within (As := [_, _, _]) rfl d_M_character_13 lk_M_75 len_M_within (Nat.le_of_ble_eq_true rfl) (c_M_within (d := d) i 0 (nI sz - 1)) (Nat.le_refl _) (Nat.le_of_ble_eq_true rfl) (Nat.le_of_ble_eq_true rfl) (fun v h' n' hp => ?_) (fun x h' n' hp => by cases hp.1)
  obtain ⟨hv, rfl, rfl⟩ := hp
  cases hv
  have es : (nI sz - 1).toInt = (sz : Int) - 1 := pk_sub_toInt (a := sz) (b := 1) (by omega) (by decide)
  by_cases e : 0 ≤ i ∧ i ≤ nI sz - 1
  · rw [if_pos e]
    have c1 := et_le_i e.1
    have c2 := et_le_i e.2
    rw [es] at c2
    have a0 : (0 : Int32).toInt = 0 := rfl
    have hin : vp_in i 60 := vp_in_iff.mpr ⟨by omega, by omega⟩
    have hno : ¬ (i < 0 ∨ nI sz ≤ i) := fun z => by
      rcases z with z | z
      · have := et_lt_i z; omega
      · have := et_le_i z; rw [nI_toInt (by omega)] at this; omega
    rw [if_neg hno]
    refine et_if_eq (tgt := 28) d_M_character_16 (by decide) (fun q => absurd q (by decide)) (fun _ => ?_)
    refine et_aload_n (i := 0) d_M_character_19 rfl rfl ?_
    refine et_getf (ci := 7) 1 d_M_character_20 rfl rfl in_M (by decide) fl_M_7 rfl ?_
    refine et_iload_n (i := 1) d_M_character_23 rfl rfl ?_
    refine et_iald d_M_character_24 h65 hin ?_
    refine et_goto (tgt := 29) d_M_character_25 (by decide) ?_
    exact et_iret d_M_character_29 rfl (Nat.le_of_ble_eq_true rfl) (Nat.le_of_ble_eq_true rfl) ⟨rfl, rfl, rfl⟩
  · rw [if_neg e]
    have hyes : i < 0 ∨ nI sz ≤ i := by
      by_cases z : i < 0
      · exact Or.inl z
      · refine Or.inr (Int32.le_iff_toInt_le.mpr ?_)
        rw [nI_toInt (by omega)]
        have c1 := et_nlt_i z
        have c2 := et_nle_i (fun y => e ⟨Int32.not_lt.mp z, y⟩)
        rw [es] at c2
        omega
    rw [if_pos hyes]
    refine et_if_eq (tgt := 28) d_M_character_16 (by decide) (fun _ => ?_) (fun q => absurd (by decide) q)
    refine et_iconst (v := (-1)) d_M_character_28 (by decide) ?_
    exact et_iret d_M_character_29 rfl (Nat.le_of_ble_eq_true rfl) (Nat.le_of_ble_eq_true rfl) ⟨rfl, rfl, rfl⟩
end
section
set_option maxHeartbeats 4000000 in
set_option maxRecDepth 100000 in
theorem c_M_fail {sc : et_X} {h : Nat → et_MC} {d n : Nat} {th le a_ wr en al se ru nd cs un rs : Int32} {dc ds : Int64} (h64 : h 64 = et_Mo th le a_ wr en al se ru nd cs un rs dc ds) : et_Cn sc Y_M_fail d [.ref 64] h n 0 0 (fun r h' n' => r = .inl (some (.int 0)) ∧ n' = n ∧ h' = va_up h 64 (et_Mo th le a_ a_ en al se ru nd cs un rs dc ds)) := by
  refine et_Cn.of 0 rfl rfl (by decide) mV_M_fail.1 ?_
  refine et_aload_n (i := 0) d_M_fail_0 rfl rfl ?_
  refine et_aload_n (i := 0) d_M_fail_1 rfl rfl ?_
  refine et_getf (ci := 7) 3 d_M_fail_2 h64 rfl in_M (by decide) fl_M_88 rfl ?_
  refine et_putf (ci := 7) 4 d_M_fail_5 h64 rfl in_M ty_M nm_M (by decide) fl_M_13 rfl rfl (fun _ => rfl) (fun _ => rfl) (Nat.le_of_ble_eq_true rfl) (fs' := [_, _, _, _, _, _, _, _, _, _, _, _, _, _, _, _, _, _, _, _, _, _, _, _, _, _, _, _, _, _, _, _, _]) rfl ?_
  refine et_iconst (v := 0) d_M_fail_8 (by decide) ?_
  exact et_zret d_M_fail_9 rfl rfl (Nat.le_of_ble_eq_true rfl) (Nat.le_of_ble_eq_true rfl) ⟨rfl, rfl, rfl⟩
set_option maxHeartbeats 4000000 in
set_option maxRecDepth 100000 in
theorem c0_M_readSide {sc : et_X} {h : Nat → et_MC} {d n : Nat} {th wr en al se ru nd cs un rs : Int32} {dc ds : Int64} (x y : Int32) (hx : 0 ≤ x) (h64 : h 64 = et_Mo th 0 0 wr en al se ru nd cs un rs dc ds) : et_Cn sc Y_M_readSide (d + 1) [.ref 64, .int x, .int y] h n 0 0 (fun r h' n' => r = .inl (some (.int 0)) ∧ n' = n ∧ h' 64 = et_Mo th 0 0 0 0 al se ru nd cs un rs dc ds ∧ ∀ k, k ≠ 64 → h' k = h k) := by
  refine et_Cn.of 3 rfl rfl (by decide) mV_M_readSide.1 ?_
  refine et_aload_n (i := 0) d_M_readSide_0 rfl rfl ?_
  refine et_aload_n (i := 0) d_M_readSide_1 rfl rfl ?_
  refine et_getf (ci := 7) 3 d_M_readSide_2 h64 rfl in_M (by decide) fl_M_88 rfl ?_
  refine et_iload_n (i := 1) d_M_readSide_5 rfl rfl ?_
  refine et_iadd d_M_readSide_6 ?_
  refine et_aload_n (i := 0) d_M_readSide_7 rfl rfl ?_
  refine et_getf (ci := 7) 2 d_M_readSide_8 h64 rfl in_M (by decide) fl_M_79 rfl ?_
  refine et_icmp_ge (tgt := 23) d_M_readSide_11 (by decide) (fun _ => ?_) (fun q => absurd (show (0 : Int32) ≤ 0 + x by rw [Int32.zero_add]; exact hx) q)
  refine et_aload_n (i := 0) d_M_readSide_23 rfl rfl ?_
  refine et_getf (ci := 7) 2 d_M_readSide_24 h64 rfl in_M (by decide) fl_M_79 rfl ?_
  refine et_putf (ci := 7) 5 d_M_readSide_27 h64 rfl in_M ty_M nm_M (by decide) fl_M_91 rfl rfl (fun _ => rfl) (fun _ => rfl) (Nat.le_of_ble_eq_true rfl) (fs' := [_, _, _, _, _, _, _, _, _, _, _, _, _, _, _, _, _, _, _, _, _, _, _, _, _, _, _, _, _, _, _, _, _]) rfl ?_
  refine et_iconst (v := 1) d_M_readSide_30 (by decide) ?_
  refine et_istore_n (i := 3) (lv' := [_, _, _, _, _, _]) d_M_readSide_31 rfl (by decide) rfl rfl ?_
  refine et_iload_n (i := 3) d_M_readSide_32 rfl rfl ?_
  refine et_if_le (tgt := 176) d_M_readSide_33 (by decide) (fun q => absurd q (by decide)) (fun _ => ?_)
  refine et_aload_n (i := 0) d_M_readSide_36 rfl rfl ?_
  refine et_getf (ci := 7) 3 d_M_readSide_37 rfl rfl in_M (by decide) fl_M_88 rfl ?_
  refine et_aload_n (i := 0) d_M_readSide_40 rfl rfl ?_
  refine et_getf (ci := 7) 5 d_M_readSide_41 rfl rfl in_M (by decide) fl_M_91 rfl ?_
  refine et_icmp_lt (tgt := 52) d_M_readSide_44 (by decide) (fun q => absurd q (by decide)) (fun _ => ?_)
  refine et_aload_n (i := 0) d_M_readSide_47 rfl rfl ?_
  refine et_invV mV_M_fail (As := []) rfl d_M_readSide_48 lk_M_94 len_M_fail rfl rfl (Nat.le_of_ble_eq_true rfl) (c_M_fail (d := d) rfl) (Nat.le_refl _) (Nat.le_of_ble_eq_true rfl) (Nat.le_of_ble_eq_true rfl) (fun v h' n' hp => ?_) (fun x h' n' hp => by cases hp.1)
  obtain ⟨hv, rfl, rfl⟩ := hp
  cases hv
  exact et_zret d_M_readSide_51 rfl rfl (Nat.le_of_ble_eq_true rfl) (Nat.le_of_ble_eq_true rfl) ⟨rfl, rfl, rfl, fun k e => by simp [va_up, e]⟩
set_option maxHeartbeats 4000000 in
set_option maxRecDepth 100000 in
theorem c0_M_readTerm {sc : et_X} {h : Nat → et_MC} {d n : Nat} {th a_ wr en al se ru nd cs un rs : Int32} {dc ds : Int64} (h64 : h 64 = et_Mo th 0 a_ wr en al se ru nd cs un rs dc ds) : et_Cn sc Y_M_readTerm (d + 2) [.ref 64] h n 0 0 (fun r h' n' => r = .inl (some (.int 0)) ∧ n' = n ∧ h' 64 = et_Mo th 0 0 0 0 al se ru nd cs un rs dc ds ∧ ∀ k, k ≠ 64 → h' k = h k) := by
  refine et_Cn.of 0 rfl rfl (by decide) mV_M_readTerm.1 ?_
  refine et_aload_n (i := 0) d_M_readTerm_0 rfl rfl ?_
  refine et_iconst (v := 0) d_M_readTerm_1 (by decide) ?_
  refine et_putf (ci := 7) 3 d_M_readTerm_2 h64 rfl in_M ty_M nm_M (by decide) fl_M_88 rfl rfl (fun _ => rfl) (fun _ => rfl) (Nat.le_of_ble_eq_true rfl) (fs' := [_, _, _, _, _, _, _, _, _, _, _, _, _, _, _, _, _, _, _, _, _, _, _, _, _, _, _, _, _, _, _, _, _]) rfl ?_
  refine et_aload_n (i := 0) d_M_readTerm_5 rfl rfl ?_
  refine et_bipush (v := 60) d_M_readTerm_6 (by decide) ?_
  refine et_iconst (v := 0) d_M_readTerm_8 (by decide) ?_
  refine et_invV mV_M_readSide (As := [_, _]) rfl d_M_readTerm_9 lk_M_105 len_M_readSide rfl rfl (Nat.le_of_ble_eq_true rfl) (c0_M_readSide (d := d) 60 0 (by decide) rfl) (Nat.le_refl _) (Nat.le_of_ble_eq_true rfl) (Nat.le_of_ble_eq_true rfl) (fun v ha n' hp => ?_) (fun x h' n' hp => by cases hp.1)
  obtain ⟨hv, rfl, g64, fr⟩ := hp
  cases hv
  refine et_if_eq (tgt := 37) d_M_readTerm_12 (by decide) (fun _ => ?_) (fun q => absurd (by decide) q)
  refine et_iconst (v := 0) d_M_readTerm_37 (by decide) ?_
  exact et_zret d_M_readTerm_38 rfl rfl (Nat.le_of_ble_eq_true rfl) (Nat.le_of_ble_eq_true rfl) ⟨rfl, rfl, g64, fun k e => (fr k e).trans (by simp [va_up, e])⟩
set_option maxHeartbeats 4000000 in
set_option maxRecDepth 100000 in
theorem c0_M_readBoth {sc : et_X} {h : Nat → et_MC} {d n : Nat} {th a_ wr en al se ru nd cs un rs : Int32} {dc ds : Int64} (x z : Int32) (hx : 0 ≤ x) (h64 : h 64 = et_Mo th 0 a_ wr en al se ru nd cs un rs dc ds) : et_Cn sc Y_M_readBoth (d + 2) [.ref 64, .int x, .int z] h n 0 0 (fun r h' n' => r = .inl (some (.int (-1))) ∧ n' = n ∧ h' 64 = et_Mo th 0 0 0 0 al 0 ru nd cs un rs dc ds ∧ ∀ k, k ≠ 64 → h' k = h k) := by
  refine et_Cn.of 1 rfl rfl (by decide) mV_M_readBoth.1 ?_
  refine et_aload_n (i := 0) d_M_readBoth_0 rfl rfl ?_
  refine et_iconst (v := 0) d_M_readBoth_1 (by decide) ?_
  refine et_putf (ci := 7) 3 d_M_readBoth_2 h64 rfl in_M ty_M nm_M (by decide) fl_M_88 rfl rfl (fun _ => rfl) (fun _ => rfl) (Nat.le_of_ble_eq_true rfl) (fs' := [_, _, _, _, _, _, _, _, _, _, _, _, _, _, _, _, _, _, _, _, _, _, _, _, _, _, _, _, _, _, _, _, _]) rfl ?_
  refine et_aload_n (i := 0) d_M_readBoth_5 rfl rfl ?_
  refine et_iconst (v := 0) d_M_readBoth_6 (by decide) ?_
  refine et_putf (ci := 7) 7 d_M_readBoth_7 rfl rfl in_M ty_M nm_M (by decide) fl_M_102 rfl rfl (fun _ => rfl) (fun _ => rfl) (Nat.le_of_ble_eq_true rfl) (fs' := [_, _, _, _, _, _, _, _, _, _, _, _, _, _, _, _, _, _, _, _, _, _, _, _, _, _, _, _, _, _, _, _, _]) rfl ?_
  refine et_aload_n (i := 0) d_M_readBoth_10 rfl rfl ?_
  refine et_iload_n (i := 1) d_M_readBoth_11 rfl rfl ?_
  refine et_iload_n (i := 2) d_M_readBoth_12 rfl rfl ?_
  have key : ∀ y : Int32, et_M sc Y_M_readBoth (d + 2) 0 0 (fun r h' n' => r = .inl (some (.int (-1))) ∧ n' = n ∧ h' 64 = et_Mo th 0 0 0 0 al 0 ru nd cs un rs dc ds ∧ ∀ k, k ≠ 64 → h' k = h k) 22 [some (.ref 64), some (.int x), some (.int z), none] [.int y, .int x, .ref 64] (va_up (va_up h 64 (et_Mo th 0 0 wr en al se ru nd cs un rs dc ds)) 64 (et_Mo th 0 0 wr en al 0 ru nd cs un rs dc ds)) n 0 0 := by
    intro y
    refine et_invV mV_M_readSide (As := [_, _]) rfl d_M_readBoth_22 lk_M_105 len_M_readSide rfl rfl (Nat.le_of_ble_eq_true rfl) (c0_M_readSide (d := d) x y hx rfl) (Nat.le_refl _) (Nat.le_of_ble_eq_true rfl) (Nat.le_of_ble_eq_true rfl) (fun v ha n' hp => ?_) (fun x h' n' hp => by cases hp.1)
    obtain ⟨hv, rfl, g64, fr⟩ := hp
    cases hv
    refine et_if_ne (tgt := 30) d_M_readBoth_25 (by decide) (fun q => absurd (by decide) q) (fun _ => ?_)
    refine et_iconst (v := (-1)) d_M_readBoth_28 (by decide) ?_
    exact et_iret d_M_readBoth_29 rfl (Nat.le_of_ble_eq_true rfl) (Nat.le_of_ble_eq_true rfl) ⟨rfl, rfl, g64, fun k e => (fr k e).trans (by simp [va_up, e])⟩
  refine et_if_eq (tgt := 21) d_M_readBoth_13 (by decide) (fun q => ?_) (fun q => ?_)
  · refine et_iconst (v := 0) d_M_readBoth_21 (by decide) ?_
    exact key 0
  · refine et_bipush (v := 7) d_M_readBoth_16 (by decide) ?_
    refine et_goto (tgt := 22) d_M_readBoth_18 (by decide) ?_
    exact key 7
set_option maxHeartbeats 4000000 in
set_option maxRecDepth 100000 in
theorem c0_M_rule {sc : et_X} {h : Nat → et_MC} {d n : Nat} {th a_ wr en al se ru nd cs un rs : Int32} {dc ds : Int64} (h64 : h 64 = et_Mo th 0 a_ wr en al se ru nd cs un rs dc ds) : et_Cn sc Y_M_rule (d + 3) [.ref 64] h n 0 0 (fun r h' n' => r = .inl (some (.int 0)) ∧ n' = n ∧ h' 64 = et_Mo 1 0 0 0 0 al 0 ru nd cs un rs dc ds ∧ ∀ k, k ≠ 64 → h' k = h k) := by
  refine et_Cn.of 2 rfl rfl (by decide) mV_M_rule.1 ?_
  refine et_aload_n (i := 0) d_M_rule_0 rfl rfl ?_
  refine et_iconst (v := 0) d_M_rule_1 (by decide) ?_
  refine et_putf (ci := 7) 0 d_M_rule_2 h64 rfl in_M ty_M nm_M (by decide) fl_M_72 rfl rfl (fun _ => rfl) (fun _ => rfl) (Nat.le_of_ble_eq_true rfl) (fs' := [_, _, _, _, _, _, _, _, _, _, _, _, _, _, _, _, _, _, _, _, _, _, _, _, _, _, _, _, _, _, _, _, _]) rfl ?_
  refine et_aload_n (i := 0) d_M_rule_5 rfl rfl ?_
  refine et_bipush (v := 7) d_M_rule_6 (by decide) ?_
  refine et_iconst (v := 1) d_M_rule_8 (by decide) ?_
  refine et_invV mV_M_readBoth (As := [_, _]) rfl d_M_rule_9 lk_M_109 len_M_readBoth rfl rfl (Nat.le_of_ble_eq_true rfl) (c0_M_readBoth (d := d) 7 1 (by decide) rfl) (Nat.le_refl _) (Nat.le_of_ble_eq_true rfl) (Nat.le_of_ble_eq_true rfl) (fun v ha n' hp => ?_) (fun x h' n' hp => by cases hp.1)
  obtain ⟨hv, rfl, g64, fr⟩ := hp
  cases hv
  refine et_istore_n (i := 1) (lv' := [_, _, _]) d_M_rule_12 rfl (by decide) rfl rfl ?_
  refine et_iload_n (i := 1) d_M_rule_13 rfl rfl ?_
  refine et_if_lt (tgt := 26) d_M_rule_14 (by decide) (fun _ => ?_) (fun q => absurd (by decide) q)
  refine et_aload_n (i := 0) d_M_rule_26 rfl rfl ?_
  refine et_iload_n (i := 1) d_M_rule_27 rfl rfl ?_
  refine et_if_ge (tgt := 35) d_M_rule_28 (by decide) (fun q => absurd q (by decide)) (fun _ => ?_)
  refine et_iconst (v := 1) d_M_rule_31 (by decide) ?_
  refine et_goto (tgt := 36) d_M_rule_32 (by decide) ?_
  refine et_invV mV_M_refuse (As := [_]) rfl d_M_rule_36 lk_M_116 len_M_refuse g64 rfl (Nat.le_of_ble_eq_true rfl) (c_M_refuse (d := d) 1 g64) (by omega) (Nat.le_of_ble_eq_true rfl) (Nat.le_of_ble_eq_true rfl) (fun v h' n' hp => ?_) (fun x h' n' hp => by cases hp.1)
  obtain ⟨hv, rfl, rfl⟩ := hp
  cases hv
  exact et_iret d_M_rule_39 rfl (Nat.le_of_ble_eq_true rfl) (Nat.le_of_ble_eq_true rfl) ⟨rfl, rfl, rfl, fun k e => by simp [va_up, e, fr k e]⟩
set_option maxHeartbeats 4000000 in
set_option maxRecDepth 100000 in
theorem c0_M_unite {sc : et_X} {h : Nat → et_MC} {d n : Nat} {th a_ wr en al se ru nd cs un rs : Int32} {dc ds : Int64} (h64 : h 64 = et_Mo th 0 a_ wr en al se ru nd cs un rs dc ds) : et_Cn sc Y_M_unite (d + 3) [.ref 64] h n 0 0 (fun r h' n' => r = .inl (some (.int 0)) ∧ n' = n ∧ h' 64 = et_Mo 1 0 0 0 0 al 0 ru nd cs un rs dc ds ∧ ∀ k, k ≠ 64 → h' k = h k) := by
  refine et_Cn.of 5 rfl rfl (by decide) mV_M_unite.1 ?_
  refine et_aload_n (i := 0) d_M_unite_0 rfl rfl ?_
  refine et_iconst (v := 0) d_M_unite_1 (by decide) ?_
  refine et_putf (ci := 7) 0 d_M_unite_2 h64 rfl in_M ty_M nm_M (by decide) fl_M_72 rfl rfl (fun _ => rfl) (fun _ => rfl) (Nat.le_of_ble_eq_true rfl) (fs' := [_, _, _, _, _, _, _, _, _, _, _, _, _, _, _, _, _, _, _, _, _, _, _, _, _, _, _, _, _, _, _, _, _]) rfl ?_
  refine et_aload_n (i := 0) d_M_unite_5 rfl rfl ?_
  refine et_bipush (v := 60) d_M_unite_6 (by decide) ?_
  refine et_iconst (v := 0) d_M_unite_8 (by decide) ?_
  refine et_invV mV_M_readBoth (As := [_, _]) rfl d_M_unite_9 lk_M_109 len_M_readBoth rfl rfl (Nat.le_of_ble_eq_true rfl) (c0_M_readBoth (d := d) 60 0 (by decide) rfl) (Nat.le_refl _) (Nat.le_of_ble_eq_true rfl) (Nat.le_of_ble_eq_true rfl) (fun v ha n' hp => ?_) (fun x h' n' hp => by cases hp.1)
  obtain ⟨hv, rfl, g64, fr⟩ := hp
  cases hv
  refine et_istore_n (i := 1) (lv' := [_, _, _, _, _, _]) d_M_unite_12 rfl (by decide) rfl rfl ?_
  refine et_iload_n (i := 1) d_M_unite_13 rfl rfl ?_
  refine et_if_ge (tgt := 23) d_M_unite_14 (by decide) (fun q => absurd q (by decide)) (fun _ => ?_)
  refine et_aload_n (i := 0) d_M_unite_17 rfl rfl ?_
  refine et_iconst (v := 1) d_M_unite_18 (by decide) ?_
  refine et_invV mV_M_refuse (As := [_]) rfl d_M_unite_19 lk_M_116 len_M_refuse g64 rfl (Nat.le_of_ble_eq_true rfl) (c_M_refuse (d := d) 1 g64) (by omega) (Nat.le_of_ble_eq_true rfl) (Nat.le_of_ble_eq_true rfl) (fun v h' n' hp => ?_) (fun x h' n' hp => by cases hp.1)
  obtain ⟨hv, rfl, rfl⟩ := hp
  cases hv
  exact et_iret d_M_unite_22 rfl (Nat.le_of_ble_eq_true rfl) (Nat.le_of_ble_eq_true rfl) ⟨rfl, rfl, rfl, fun k e => by simp [va_up, e, fr k e]⟩
set_option maxHeartbeats 4000000 in
set_option maxRecDepth 100000 in
theorem c0_M_same {sc : et_X} {h : Nat → et_MC} {d n : Nat} {th a_ wr en al se ru nd cs un rs : Int32} {dc ds : Int64} (h64 : h 64 = et_Mo th 0 a_ wr en al se ru nd cs un rs dc ds) : et_Cn sc Y_M_same (d + 3) [.ref 64] h n 0 0 (fun r h' n' => r = .inl (some (.int 0)) ∧ n' = n ∧ h' 64 = et_Mo 1 0 0 0 0 al 0 ru nd cs un rs dc ds ∧ ∀ k, k ≠ 64 → h' k = h k) := by
  refine et_Cn.of 3 rfl rfl (by decide) mV_M_same.1 ?_
  refine et_aload_n (i := 0) d_M_same_0 rfl rfl ?_
  refine et_iconst (v := 0) d_M_same_1 (by decide) ?_
  refine et_putf (ci := 7) 0 d_M_same_2 h64 rfl in_M ty_M nm_M (by decide) fl_M_72 rfl rfl (fun _ => rfl) (fun _ => rfl) (Nat.le_of_ble_eq_true rfl) (fs' := [_, _, _, _, _, _, _, _, _, _, _, _, _, _, _, _, _, _, _, _, _, _, _, _, _, _, _, _, _, _, _, _, _]) rfl ?_
  refine et_aload_n (i := 0) d_M_same_5 rfl rfl ?_
  refine et_bipush (v := 60) d_M_same_6 (by decide) ?_
  refine et_iconst (v := 0) d_M_same_8 (by decide) ?_
  refine et_invV mV_M_readBoth (As := [_, _]) rfl d_M_same_9 lk_M_109 len_M_readBoth rfl rfl (Nat.le_of_ble_eq_true rfl) (c0_M_readBoth (d := d) 60 0 (by decide) rfl) (Nat.le_refl _) (Nat.le_of_ble_eq_true rfl) (Nat.le_of_ble_eq_true rfl) (fun v ha n' hp => ?_) (fun x h' n' hp => by cases hp.1)
  obtain ⟨hv, rfl, g64, fr⟩ := hp
  cases hv
  refine et_istore_n (i := 1) (lv' := [_, _, _, _]) d_M_same_12 rfl (by decide) rfl rfl ?_
  refine et_iload_n (i := 1) d_M_same_13 rfl rfl ?_
  refine et_if_ge (tgt := 23) d_M_same_14 (by decide) (fun q => absurd q (by decide)) (fun _ => ?_)
  refine et_aload_n (i := 0) d_M_same_17 rfl rfl ?_
  refine et_iconst (v := 1) d_M_same_18 (by decide) ?_
  refine et_invV mV_M_refuse (As := [_]) rfl d_M_same_19 lk_M_116 len_M_refuse g64 rfl (Nat.le_of_ble_eq_true rfl) (c_M_refuse (d := d) 1 g64) (by omega) (Nat.le_of_ble_eq_true rfl) (Nat.le_of_ble_eq_true rfl) (fun v h' n' hp => ?_) (fun x h' n' hp => by cases hp.1)
  obtain ⟨hv, rfl, rfl⟩ := hp
  cases hv
  exact et_iret d_M_same_22 rfl (Nat.le_of_ble_eq_true rfl) (Nat.le_of_ble_eq_true rfl) ⟨rfl, rfl, rfl, fun k e => by simp [va_up, e, fr k e]⟩
set_option maxHeartbeats 4000000 in
set_option maxRecDepth 100000 in
theorem c0_M_add {sc : et_X} {h : Nat → et_MC} {d n : Nat} {th a_ wr en al se ru nd cs un rs : Int32} {dc ds : Int64} (h64 : h 64 = et_Mo th 0 a_ wr en al se ru nd cs un rs dc ds) : et_Cn sc Y_M_add (d + 3) [.ref 64] h n 0 0 (fun r h' n' => r = .inl (some (.int 0)) ∧ n' = n ∧ h' 64 = et_Mo 1 0 0 0 0 al se ru nd cs un rs dc ds ∧ ∀ k, k ≠ 64 → h' k = h k) := by
  refine et_Cn.of 3 rfl rfl (by decide) mV_M_add.1 ?_
  refine et_aload_n (i := 0) d_M_add_0 rfl rfl ?_
  refine et_iconst (v := 0) d_M_add_1 (by decide) ?_
  refine et_putf (ci := 7) 0 d_M_add_2 h64 rfl in_M ty_M nm_M (by decide) fl_M_72 rfl rfl (fun _ => rfl) (fun _ => rfl) (Nat.le_of_ble_eq_true rfl) (fs' := [_, _, _, _, _, _, _, _, _, _, _, _, _, _, _, _, _, _, _, _, _, _, _, _, _, _, _, _, _, _, _, _, _]) rfl ?_
  refine et_aload_n (i := 0) d_M_add_5 rfl rfl ?_
  refine et_invV mV_M_readTerm (As := []) rfl d_M_add_6 lk_M_157 len_M_readTerm rfl rfl (Nat.le_of_ble_eq_true rfl) (c0_M_readTerm (d := d) rfl) (Nat.le_refl _) (Nat.le_of_ble_eq_true rfl) (Nat.le_of_ble_eq_true rfl) (fun v ha n' hp => ?_) (fun x h' n' hp => by cases hp.1)
  obtain ⟨hv, rfl, g64, fr⟩ := hp
  cases hv
  refine et_if_ne (tgt := 18) d_M_add_9 (by decide) (fun q => absurd (by decide) q) (fun _ => ?_)
  refine et_aload_n (i := 0) d_M_add_12 rfl rfl ?_
  refine et_iconst (v := 1) d_M_add_13 (by decide) ?_
  refine et_invV mV_M_refuse (As := [_]) rfl d_M_add_14 lk_M_116 len_M_refuse g64 rfl (Nat.le_of_ble_eq_true rfl) (c_M_refuse (d := d) 1 g64) (by omega) (Nat.le_of_ble_eq_true rfl) (Nat.le_of_ble_eq_true rfl) (fun v h' n' hp => ?_) (fun x h' n' hp => by cases hp.1)
  obtain ⟨hv, rfl, rfl⟩ := hp
  cases hv
  exact et_iret d_M_add_17 rfl (Nat.le_of_ble_eq_true rfl) (Nat.le_of_ble_eq_true rfl) ⟨rfl, rfl, rfl, fun k e => by simp [va_up, e, fr k e]⟩
set_option maxHeartbeats 4000000 in
set_option maxRecDepth 100000 in
theorem c0_M_asked {sc : et_X} {h : Nat → et_MC} {d n : Nat} {th a_ wr en al se ru nd cs un rs : Int32} {dc ds : Int64} (h64 : h 64 = et_Mo th 0 a_ wr en al se ru nd cs un rs dc ds) : et_Cn sc Y_M_asked (d + 3) [.ref 64] h n 0 0 (fun r h' n' => r = .inl (some (.int 0)) ∧ n' = n ∧ h' 64 = et_Mo 1 0 0 0 0 al se ru nd cs un rs dc ds ∧ ∀ k, k ≠ 64 → h' k = h k) := by
  refine et_Cn.of 1 rfl rfl (by decide) mV_M_asked.1 ?_
  refine et_aload_n (i := 0) d_M_asked_0 rfl rfl ?_
  refine et_invV mV_M_readTerm (As := []) rfl d_M_asked_1 lk_M_157 len_M_readTerm h64 rfl (Nat.le_of_ble_eq_true rfl) (c0_M_readTerm (d := d) h64) (Nat.le_refl _) (Nat.le_of_ble_eq_true rfl) (Nat.le_of_ble_eq_true rfl) (fun v ha n' hp => ?_) (fun x h' n' hp => by cases hp.1)
  obtain ⟨hv, rfl, g64, fr⟩ := hp
  cases hv
  refine et_if_ne (tgt := 13) d_M_asked_4 (by decide) (fun q => absurd (by decide) q) (fun _ => ?_)
  refine et_aload_n (i := 0) d_M_asked_7 rfl rfl ?_
  refine et_iconst (v := 1) d_M_asked_8 (by decide) ?_
  refine et_invV mV_M_refuse (As := [_]) rfl d_M_asked_9 lk_M_116 len_M_refuse g64 rfl (Nat.le_of_ble_eq_true rfl) (c_M_refuse (d := d) 1 g64) (by omega) (Nat.le_of_ble_eq_true rfl) (Nat.le_of_ble_eq_true rfl) (fun v h' n' hp => ?_) (fun x h' n' hp => by cases hp.1)
  obtain ⟨hv, rfl, rfl⟩ := hp
  cases hv
  exact et_iret d_M_asked_12 rfl (Nat.le_of_ble_eq_true rfl) (Nat.le_of_ble_eq_true rfl) ⟨rfl, rfl, rfl, fun k e => by simp [va_up, e, fr k e]⟩
set_option maxHeartbeats 4000000 in
set_option maxRecDepth 100000 in
theorem c0_M_members {sc : et_X} {h : Nat → et_MC} {d n : Nat} {th a_ wr en al se ru nd cs un rs : Int32} {dc ds : Int64} (h64 : h 64 = et_Mo th 0 a_ wr en al se ru nd cs un rs dc ds) : et_Cn sc Y_M_members (d + 4) [.ref 64] h n 0 0 (fun r h' n' => r = .inl (some (.int 0)) ∧ n' = n ∧ h' 64 = et_Mo 1 0 0 0 0 al se ru nd cs un rs dc ds ∧ ∀ k, k ≠ 64 → h' k = h k) := by
  refine et_Cn.of 3 rfl rfl (by decide) mV_M_members.1 ?_
  refine et_aload_n (i := 0) d_M_members_0 rfl rfl ?_
  refine et_invV mV_M_asked (As := []) rfl d_M_members_1 lk_M_196 len_M_asked h64 rfl (Nat.le_of_ble_eq_true rfl) (c0_M_asked (d := d) h64) (Nat.le_refl _) (Nat.le_of_ble_eq_true rfl) (Nat.le_of_ble_eq_true rfl) (fun v ha n' hp => ?_) (fun x h' n' hp => by cases hp.1)
  obtain ⟨hv, rfl, g64, fr⟩ := hp
  cases hv
  refine et_istore_n (i := 1) (lv' := [_, _, _, _]) d_M_members_4 rfl (by decide) rfl rfl ?_
  refine et_aload_n (i := 0) d_M_members_5 rfl rfl ?_
  refine et_getf (ci := 7) 0 d_M_members_6 g64 rfl in_M (by decide) fl_M_72 rfl ?_
  refine et_if_le (tgt := 14) d_M_members_9 (by decide) (fun q => absurd q (by decide)) (fun _ => ?_)
  refine et_iconst (v := 0) d_M_members_12 (by decide) ?_
  exact et_iret d_M_members_13 rfl (Nat.le_of_ble_eq_true rfl) (Nat.le_of_ble_eq_true rfl) ⟨rfl, rfl, g64, fr⟩
set_option maxHeartbeats 4000000 in
set_option maxRecDepth 100000 in
theorem c0_M_cost {sc : et_X} {h : Nat → et_MC} {d n : Nat} {th a_ wr en al se ru nd cs un rs : Int32} {dc ds : Int64} (h64 : h 64 = et_Mo th 0 a_ wr en al se ru nd cs un rs dc ds) : et_Cn sc Y_M_cost (d + 4) [.ref 64] h n 0 0 (fun r h' n' => r = .inl (some (.long 0)) ∧ n' = n ∧ h' 64 = et_Mo 1 0 0 0 0 al se ru nd cs un rs dc ds ∧ ∀ k, k ≠ 64 → h' k = h k) := by
  refine et_Cn.of 1 rfl rfl (by decide) mV_M_cost.1 ?_
  refine et_aload_n (i := 0) d_M_cost_0 rfl rfl ?_
  refine et_invV mV_M_asked (As := []) rfl d_M_cost_1 lk_M_196 len_M_asked h64 rfl (Nat.le_of_ble_eq_true rfl) (c0_M_asked (d := d) h64) (Nat.le_refl _) (Nat.le_of_ble_eq_true rfl) (Nat.le_of_ble_eq_true rfl) (fun v ha n' hp => ?_) (fun x h' n' hp => by cases hp.1)
  obtain ⟨hv, rfl, g64, fr⟩ := hp
  cases hv
  refine et_istore_n (i := 1) (lv' := [_, _]) d_M_cost_4 rfl (by decide) rfl rfl ?_
  refine et_aload_n (i := 0) d_M_cost_5 rfl rfl ?_
  refine et_getf (ci := 7) 0 d_M_cost_6 g64 rfl in_M (by decide) fl_M_72 rfl ?_
  refine et_if_le (tgt := 14) d_M_cost_9 (by decide) (fun q => absurd q (by decide)) (fun _ => ?_)
  refine et_lconst (v := 0) d_M_cost_12 (by decide) ?_
  exact et_lret d_M_cost_13 rfl (Nat.le_of_ble_eq_true rfl) (Nat.le_of_ble_eq_true rfl) ⟨rfl, rfl, g64, fr⟩
set_option maxHeartbeats 4000000 in
set_option maxRecDepth 100000 in
theorem c0_M_best {sc : et_X} {h : Nat → et_MC} {d n : Nat} {th a_ wr en al se ru nd cs un rs : Int32} {dc ds : Int64} (h64 : h 64 = et_Mo th 0 a_ wr en al se ru nd cs un rs dc ds) : et_Cn sc Y_M_best (d + 4) [.ref 64] h n 0 0 (fun r h' n' => r = .inl (some (.int 0)) ∧ n' = n ∧ h' 64 = et_Mo 1 0 0 0 0 al se ru nd cs un rs dc ds ∧ ∀ k, k ≠ 64 → h' k = h k) := by
  refine et_Cn.of 2 rfl rfl (by decide) mV_M_best.1 ?_
  refine et_aload_n (i := 0) d_M_best_0 rfl rfl ?_
  refine et_invV mV_M_asked (As := []) rfl d_M_best_1 lk_M_196 len_M_asked h64 rfl (Nat.le_of_ble_eq_true rfl) (c0_M_asked (d := d) h64) (Nat.le_refl _) (Nat.le_of_ble_eq_true rfl) (Nat.le_of_ble_eq_true rfl) (fun v ha n' hp => ?_) (fun x h' n' hp => by cases hp.1)
  obtain ⟨hv, rfl, g64, fr⟩ := hp
  cases hv
  refine et_istore_n (i := 1) (lv' := [_, _, _]) d_M_best_4 rfl (by decide) rfl rfl ?_
  refine et_aload_n (i := 0) d_M_best_5 rfl rfl ?_
  refine et_getf (ci := 7) 0 d_M_best_6 g64 rfl in_M (by decide) fl_M_72 rfl ?_
  refine et_if_le (tgt := 14) d_M_best_9 (by decide) (fun q => absurd q (by decide)) (fun _ => ?_)
  refine et_iconst (v := 0) d_M_best_12 (by decide) ?_
  exact et_iret d_M_best_13 rfl (Nat.le_of_ble_eq_true rfl) (Nat.le_of_ble_eq_true rfl) ⟨rfl, rfl, g64, fr⟩
theorem et_pt_neg (x : Int32) : et_pt x < 0 ↔ et_pt x = -1 := by
  unfold et_pt
  by_cases e33 : x = 33 <;> by_cases e42 : x = 42 <;> by_cases e43 : x = 43 <;> by_cases e45 : x = 45 <;> by_cases e94 : x = 94 <;> by_cases e120 : x = 120 <;> by_cases e121 : x = 121 <;> by_cases e122 : x = 122 <;> by_cases e : 48 ≤ x ∧ x ≤ 57 <;> simp only [e33, e42, e43, e45, e94, e120, e121, e122, e, if_true, if_false] <;> decide
theorem et_pt_in128 {x : Int32} (h : ¬ et_pt x = -1) : vp_in x 128 := by
  have h1 := vp_in_iff.mp (et_pt_in h)
  exact vp_in_iff.mpr ⟨h1.1, by omega⟩
set_option maxHeartbeats 4000000 in
set_option maxRecDepth 100000 in
theorem c_M_price {sc : et_X} {h : Nat → et_MC} {d n : Nat} {th le a_ wr en al se ru nd cs un rs : Int32} {dc ds : Int64} {g : Nat → Int32} (x y : Int32) (h64 : h 64 = et_Mo th le a_ wr en al se ru nd cs un rs dc ds) (h79 : h 79 = .inl (0, 128, .inl g)) : et_Cn sc Y_M_price (d + 2) [.ref 64, .int x, .int y] h n 0 0 (fun r h' n' => r = .inl none ∧ n' = n ∧ ((¬ (¬ et_pt x = -1 ∧ 1 ≤ y ∧ y ≤ 1000000000) ∧ h' = va_up h 64 (et_Mo 1 le a_ wr en al se ru nd cs un rs dc ds)) ∨ ((¬ et_pt x = -1 ∧ 1 ≤ y ∧ y ≤ 1000000000) ∧ h' = va_up (va_up h 64 (et_Mo 0 le a_ wr en al se ru nd cs un rs dc ds)) 79 (.inl (0, 128, .inl (upd g x.toNatClampNeg y)))))) := by
  refine et_Cn.of 0 rfl rfl (by decide) mV_M_price.1 ?_
  refine et_aload_n (i := 0) d_M_price_0 rfl rfl ?_
  refine et_iload_n (i := 1) d_M_price_1 rfl rfl ?_
  refine et_invS mS_M_takes (As := [_]) rfl d_M_price_2 lk_M_98 len_M_takes (Nat.le_of_ble_eq_true rfl) (c_M_takes (d := d) x) (Nat.le_refl _) (Nat.le_of_ble_eq_true rfl) (Nat.le_of_ble_eq_true rfl) (fun v h' n' hp => ?_) (fun x h' n' hp => by cases hp.1)
  obtain ⟨hv, rfl, rfl⟩ := hp
  cases hv
  refine et_if_lt (tgt := 22) d_M_price_5 (by decide) (fun q1 => ?_) (fun q1 => ?_)
  · refine et_iconst (v := 1) d_M_price_22 (by decide) ?_
    refine et_putf (ci := 7) 0 d_M_price_23 h64 rfl in_M ty_M nm_M (by decide) fl_M_72 rfl rfl (fun _ => rfl) (fun _ => rfl) (Nat.le_of_ble_eq_true rfl) (fs' := [_, _, _, _, _, _, _, _, _, _, _, _, _, _, _, _, _, _, _, _, _, _, _, _, _, _, _, _, _, _, _, _, _]) rfl ?_
    refine et_aload_n (i := 0) d_M_price_26 rfl rfl ?_
    refine et_getf (ci := 7) 0 d_M_price_27 rfl rfl in_M (by decide) fl_M_72 rfl ?_
    refine et_if_ne (tgt := 40) d_M_price_30 (by decide) (fun _ => ?_) (fun q => absurd q (by decide))
    exact et_vret d_M_price_40 rfl (Nat.le_of_ble_eq_true rfl) (Nat.le_of_ble_eq_true rfl) ⟨rfl, rfl, Or.inl ⟨fun z => z.1 ((et_pt_neg x).mp q1), rfl⟩⟩
  refine et_iload_n (i := 2) d_M_price_8 rfl rfl ?_
  refine et_iconst (v := 1) d_M_price_9 (by decide) ?_
  refine et_ldc d_M_price_10 kc_M_169 ?_
  refine et_invS mS_M_within (As := [_, _, _]) rfl d_M_price_12 lk_M_75 len_M_within (Nat.le_of_ble_eq_true rfl) (c_M_within (d := d) y 1 1000000000) (by omega) (Nat.le_of_ble_eq_true rfl) (Nat.le_of_ble_eq_true rfl) (fun v h' n' hp => ?_) (fun x h' n' hp => by cases hp.1)
  obtain ⟨hv, rfl, rfl⟩ := hp
  cases hv
  by_cases e : 1 ≤ y ∧ y ≤ 1000000000
  · rw [if_pos e]
    refine et_if_eq (tgt := 22) d_M_price_15 (by decide) (fun q => absurd q (by decide)) (fun _ => ?_)
    refine et_iconst (v := 0) d_M_price_18 (by decide) ?_
    refine et_goto (tgt := 23) d_M_price_19 (by decide) ?_
    refine et_putf (ci := 7) 0 d_M_price_23 h64 rfl in_M ty_M nm_M (by decide) fl_M_72 rfl rfl (fun _ => rfl) (fun _ => rfl) (Nat.le_of_ble_eq_true rfl) (fs' := [_, _, _, _, _, _, _, _, _, _, _, _, _, _, _, _, _, _, _, _, _, _, _, _, _, _, _, _, _, _, _, _, _]) rfl ?_
    refine et_aload_n (i := 0) d_M_price_26 rfl rfl ?_
    refine et_getf (ci := 7) 0 d_M_price_27 rfl rfl in_M (by decide) fl_M_72 rfl ?_
    refine et_if_ne (tgt := 40) d_M_price_30 (by decide) (fun q => absurd (by decide) q) (fun _ => ?_)
    refine et_aload_n (i := 0) d_M_price_33 rfl rfl ?_
    refine et_getf (ci := 7) 26 d_M_price_34 rfl rfl in_M (by decide) fl_M_56 rfl ?_
    refine et_iload_n (i := 1) d_M_price_37 rfl rfl ?_
    refine et_iload_n (i := 2) d_M_price_38 rfl rfl ?_
    refine et_iast d_M_price_39 h79 (et_pt_in128 (fun z => q1 ((et_pt_neg x).mpr z))) ?_
    exact et_vret d_M_price_40 rfl (Nat.le_of_ble_eq_true rfl) (Nat.le_of_ble_eq_true rfl) ⟨rfl, rfl, Or.inr ⟨⟨fun z => q1 ((et_pt_neg x).mpr z), e⟩, rfl⟩⟩
  · rw [if_neg e]
    refine et_if_eq (tgt := 22) d_M_price_15 (by decide) (fun _ => ?_) (fun q => absurd (by decide) q)
    refine et_iconst (v := 1) d_M_price_22 (by decide) ?_
    refine et_putf (ci := 7) 0 d_M_price_23 h64 rfl in_M ty_M nm_M (by decide) fl_M_72 rfl rfl (fun _ => rfl) (fun _ => rfl) (Nat.le_of_ble_eq_true rfl) (fs' := [_, _, _, _, _, _, _, _, _, _, _, _, _, _, _, _, _, _, _, _, _, _, _, _, _, _, _, _, _, _, _, _, _]) rfl ?_
    refine et_aload_n (i := 0) d_M_price_26 rfl rfl ?_
    refine et_getf (ci := 7) 0 d_M_price_27 rfl rfl in_M (by decide) fl_M_72 rfl ?_
    refine et_if_ne (tgt := 40) d_M_price_30 (by decide) (fun _ => ?_) (fun q => absurd q (by decide))
    exact et_vret d_M_price_40 rfl (Nat.le_of_ble_eq_true rfl) (Nat.le_of_ble_eq_true rfl) ⟨rfl, rfl, Or.inl ⟨fun z => e z.2, rfl⟩⟩
end
section
theorem et_upself {α : Type} {h : Nat → α} {k : Nat} {c : α} (e : h k = c) : va_up h k c = h := by
  funext j
  by_cases ej : j = k
  · simp [va_up, ej, e]
  · simp [va_up, ej]
set_option maxHeartbeats 4000000 in
set_option maxRecDepth 100000 in
theorem c0_M_fillTables {sc : et_X} {h : Nat → et_MC} {d n : Nat} {th le a_ wr en al se ru cs un rs : Int32} {dc ds : Int64} (h64 : h 64 = et_Mo th le a_ wr en al se ru 0 cs un rs dc ds) {f1 f2 f3 : Nat → Int32} (h76 : h 76 = .inl (0, 128, .inl f1)) (h77 : h 77 = .inl (0, 80, .inl f2)) (h78 : h 78 = .inl (0, 4800, .inl f3)) : et_Cn sc Y_M_fillTables d [.ref 64] h n 0 0 (fun r h' n' => r = .inl none ∧ n' = n ∧ ∀ k, k ≠ 76 → k ≠ 77 → k ≠ 78 → h' k = h k) := by
  refine et_Cn.of 2 rfl rfl (by decide) mV_M_fillTables.1 ?_
  have k4 : ∀ (g1 g2 g3 : Nat → Int32) (z : Int32), et_M sc Y_M_fillTables d 0 0 (fun r h' n' => r = .inl none ∧ n' = n ∧ ∀ k, k ≠ 76 → k ≠ 77 → k ≠ 78 → h' k = h k) 65 [some (.ref 64), some (.int z), none] [] (va_up (va_up (va_up h 76 (.inl (0, 128, .inl g1))) 77 (.inl (0, 80, .inl g2))) 78 (.inl (0, 4800, .inl g3))) n 0 0 := by
    intro g1 g2 g3 z
    refine et_iconst (v := 0) d_M_fillTables_65 (by decide) ?_
    refine et_istore_n (i := 1) (lv' := [_, _, _]) d_M_fillTables_66 rfl (by decide) rfl rfl ?_
    refine et_iload_n (i := 1) d_M_fillTables_67 rfl rfl ?_
    refine et_aload_n (i := 0) d_M_fillTables_68 rfl rfl ?_
    refine et_getf (ci := 7) 11 d_M_fillTables_69 h64 rfl in_M (by decide) fl_M_119 rfl ?_
    refine et_icmp_ge (tgt := 182) d_M_fillTables_72 (by decide) (fun _ => ?_) (fun q => absurd (by decide) q)
    exact et_vret d_M_fillTables_182 rfl (Nat.le_of_ble_eq_true rfl) (Nat.le_of_ble_eq_true rfl) ⟨rfl, rfl, fun k e1 e2 e3 => by simp [va_up, e1, e2, e3]⟩
  have k3 : ∀ (g1 g2 : Nat → Int32) (t i : Nat) (g3 : Nat → Int32), i + t = 4800 → et_M sc Y_M_fillTables d 0 0 (fun r h' n' => r = .inl none ∧ n' = n ∧ ∀ k, k ≠ 76 → k ≠ 77 → k ≠ 78 → h' k = h k) 45 [some (.ref 64), some (.int (nI i)), none] [] (va_up (va_up (va_up h 76 (.inl (0, 128, .inl g1))) 77 (.inl (0, 80, .inl g2))) 78 (.inl (0, 4800, .inl g3))) n 0 0 := by
    intro g1 g2 t
    induction t with
    | zero =>
      intro i g3 hi
      obtain rfl : i = 4800 := by omega
      refine et_iload_n (i := 1) d_M_fillTables_45 rfl rfl ?_
      refine et_sipush (v := 4800) d_M_fillTables_46 (by decide) ?_
      refine et_icmp_ge (tgt := 65) d_M_fillTables_49 (by decide) (fun _ => ?_) (fun q => absurd (by decide) q)
      exact k4 g1 g2 g3 _
    | succ t ih =>
      intro i g3 hi
      refine et_iload_n (i := 1) d_M_fillTables_45 rfl rfl ?_
      refine et_sipush (v := 4800) d_M_fillTables_46 (by decide) ?_
      refine et_icmp_ge (tgt := 65) d_M_fillTables_49 (by decide) (fun q => absurd q (show ¬ (4800 : Int32) ≤ nI i from nI_ge (a := i) (b := 4800) (by omega) (by decide))) (fun _ => ?_)
      refine et_aload_n (i := 0) d_M_fillTables_52 rfl rfl ?_
      refine et_getf (ci := 7) 25 d_M_fillTables_53 h64 rfl in_M (by decide) fl_M_53 rfl ?_
      refine et_iload_n (i := 1) d_M_fillTables_56 rfl rfl ?_
      refine et_iconst (v := (-1)) d_M_fillTables_57 (by decide) ?_
      refine et_iast d_M_fillTables_58 rfl (vp_in_nI (show i < 4800 by omega) (by decide)) ?_
      refine et_iinc (lv' := [_, _, _]) d_M_fillTables_59 rfl (v := nI (i + 1)) (nI_1 i) (by decide) rfl rfl ?_
      refine et_goto (tgt := 45) d_M_fillTables_62 (by decide) ?_
      rw [bx_uu]
      exact ih (i + 1) _ (by omega)
  have k2 : ∀ (g1 : Nat → Int32) (t i : Nat) (g2 : Nat → Int32), i + t = 80 → et_M sc Y_M_fillTables d 0 0 (fun r h' n' => r = .inl none ∧ n' = n ∧ ∀ k, k ≠ 76 → k ≠ 77 → k ≠ 78 → h' k = h k) 24 [some (.ref 64), some (.int (nI i)), none] [] (va_up (va_up h 76 (.inl (0, 128, .inl g1))) 77 (.inl (0, 80, .inl g2))) n 0 0 := by
    intro g1 t
    induction t with
    | zero =>
      intro i g2 hi
      obtain rfl : i = 80 := by omega
      refine et_iload_n (i := 1) d_M_fillTables_24 rfl rfl ?_
      refine et_bipush (v := 80) d_M_fillTables_25 (by decide) ?_
      refine et_icmp_ge (tgt := 43) d_M_fillTables_27 (by decide) (fun _ => ?_) (fun q => absurd (by decide) q)
      refine et_iconst (v := 0) d_M_fillTables_43 (by decide) ?_
      refine et_istore_n (i := 1) (lv' := [_, _, _]) d_M_fillTables_44 rfl (by decide) rfl rfl ?_
      have z := k3 g1 g2 4800 0 f3 rfl
      rw [et_upself (show (va_up (va_up h 76 (.inl (0, 128, .inl g1))) 77 (.inl (0, 80, .inl g2))) 78 = .inl (0, 4800, .inl f3) from h78)] at z
      exact z
    | succ t ih =>
      intro i g2 hi
      refine et_iload_n (i := 1) d_M_fillTables_24 rfl rfl ?_
      refine et_bipush (v := 80) d_M_fillTables_25 (by decide) ?_
      refine et_icmp_ge (tgt := 43) d_M_fillTables_27 (by decide) (fun q => absurd q (show ¬ (80 : Int32) ≤ nI i from nI_ge (a := i) (b := 80) (by omega) (by decide))) (fun _ => ?_)
      refine et_aload_n (i := 0) d_M_fillTables_30 rfl rfl ?_
      refine et_getf (ci := 7) 24 d_M_fillTables_31 h64 rfl in_M (by decide) fl_M_50 rfl ?_
      refine et_iload_n (i := 1) d_M_fillTables_34 rfl rfl ?_
      refine et_iconst (v := (-1)) d_M_fillTables_35 (by decide) ?_
      refine et_iast d_M_fillTables_36 rfl (vp_in_nI (show i < 80 by omega) (by decide)) ?_
      refine et_iinc (lv' := [_, _, _]) d_M_fillTables_37 rfl (v := nI (i + 1)) (nI_1 i) (by decide) rfl rfl ?_
      refine et_goto (tgt := 24) d_M_fillTables_40 (by decide) ?_
      rw [bx_uu]
      exact ih (i + 1) _ (by omega)
  have k1 : ∀  (t i : Nat) (g1 : Nat → Int32), i + t = 128 → et_M sc Y_M_fillTables d 0 0 (fun r h' n' => r = .inl none ∧ n' = n ∧ ∀ k, k ≠ 76 → k ≠ 77 → k ≠ 78 → h' k = h k) 2 [some (.ref 64), some (.int (nI i)), none] [] (va_up h 76 (.inl (0, 128, .inl g1))) n 0 0 := by
    intro  t
    induction t with
    | zero =>
      intro i g1 hi
      obtain rfl : i = 128 := by omega
      refine et_iload_n (i := 1) d_M_fillTables_2 rfl rfl ?_
      refine et_sipush (v := 128) d_M_fillTables_3 (by decide) ?_
      refine et_icmp_ge (tgt := 22) d_M_fillTables_6 (by decide) (fun _ => ?_) (fun q => absurd (by decide) q)
      refine et_iconst (v := 0) d_M_fillTables_22 (by decide) ?_
      refine et_istore_n (i := 1) (lv' := [_, _, _]) d_M_fillTables_23 rfl (by decide) rfl rfl ?_
      have z := k2 g1 80 0 f2 rfl
      rw [et_upself (show (va_up h 76 (.inl (0, 128, .inl g1))) 77 = .inl (0, 80, .inl f2) from h77)] at z
      exact z
    | succ t ih =>
      intro i g1 hi
      refine et_iload_n (i := 1) d_M_fillTables_2 rfl rfl ?_
      refine et_sipush (v := 128) d_M_fillTables_3 (by decide) ?_
      refine et_icmp_ge (tgt := 22) d_M_fillTables_6 (by decide) (fun q => absurd q (show ¬ (128 : Int32) ≤ nI i from nI_ge (a := i) (b := 128) (by omega) (by decide))) (fun _ => ?_)
      refine et_aload_n (i := 0) d_M_fillTables_9 rfl rfl ?_
      refine et_getf (ci := 7) 23 d_M_fillTables_10 h64 rfl in_M (by decide) fl_M_47 rfl ?_
      refine et_iload_n (i := 1) d_M_fillTables_13 rfl rfl ?_
      refine et_iconst (v := (-1)) d_M_fillTables_14 (by decide) ?_
      refine et_iast d_M_fillTables_15 rfl (vp_in_nI (show i < 128 by omega) (by decide)) ?_
      refine et_iinc (lv' := [_, _, _]) d_M_fillTables_16 rfl (v := nI (i + 1)) (nI_1 i) (by decide) rfl rfl ?_
      refine et_goto (tgt := 2) d_M_fillTables_19 (by decide) ?_
      rw [bx_uu]
      exact ih (i + 1) _ (by omega)
  refine et_iconst (v := 0) d_M_fillTables_0 (by decide) ?_
  refine et_istore_n (i := 1) (lv' := [_, _, _]) d_M_fillTables_1 rfl (by decide) rfl rfl ?_
  have z := k1 128 0 f1 rfl
  rw [et_upself h76] at z
  exact z
set_option maxHeartbeats 4000000 in
set_option maxRecDepth 100000 in
theorem c0_M_renumber {sc : et_X} {h : Nat → et_MC} {d n : Nat} {th le a_ wr en al se ru un rs : Int32} {dc ds : Int64} (h64 : h 64 = et_Mo th le a_ wr en al se ru 0 0 un rs dc ds) : et_Cn sc Y_M_renumber d [.ref 64] h n 0 0 (fun r h' n' => r = .inl none ∧ n' = n ∧ h' = va_up h 64 (et_Mo th le a_ wr en al se ru 0 0 un rs dc ds)) := by
  refine et_Cn.of 3 rfl rfl (by decide) mV_M_renumber.1 ?_
  refine et_iconst (v := 0) d_M_renumber_0 (by decide) ?_
  refine et_istore_n (i := 1) (lv' := [_, _, _, _]) d_M_renumber_1 rfl (by decide) rfl rfl ?_
  refine et_iload_n (i := 1) d_M_renumber_2 rfl rfl ?_
  refine et_aload_n (i := 0) d_M_renumber_3 rfl rfl ?_
  refine et_getf (ci := 7) 12 d_M_renumber_4 h64 rfl in_M (by decide) fl_M_126 rfl ?_
  refine et_icmp_ge (tgt := 23) d_M_renumber_7 (by decide) (fun _ => ?_) (fun q => absurd (by decide) q)
  refine et_iconst (v := 0) d_M_renumber_23 (by decide) ?_
  refine et_istore_n (i := 1) (lv' := [_, _, _, _]) d_M_renumber_24 rfl (by decide) rfl rfl ?_
  refine et_iconst (v := 0) d_M_renumber_25 (by decide) ?_
  refine et_istore_n (i := 2) (lv' := [_, _, _, _]) d_M_renumber_26 rfl (by decide) rfl rfl ?_
  refine et_iload_n (i := 2) d_M_renumber_27 rfl rfl ?_
  refine et_aload_n (i := 0) d_M_renumber_28 rfl rfl ?_
  refine et_getf (ci := 7) 11 d_M_renumber_29 h64 rfl in_M (by decide) fl_M_119 rfl ?_
  refine et_icmp_ge (tgt := 72) d_M_renumber_32 (by decide) (fun _ => ?_) (fun q => absurd (by decide) q)
  refine et_iconst (v := 0) d_M_renumber_72 (by decide) ?_
  refine et_istore_n (i := 2) (lv' := [_, _, _, _]) d_M_renumber_73 rfl (by decide) rfl rfl ?_
  refine et_iload_n (i := 2) d_M_renumber_74 rfl rfl ?_
  refine et_aload_n (i := 0) d_M_renumber_75 rfl rfl ?_
  refine et_getf (ci := 7) 11 d_M_renumber_76 h64 rfl in_M (by decide) fl_M_119 rfl ?_
  refine et_icmp_ge (tgt := 180) d_M_renumber_79 (by decide) (fun _ => ?_) (fun q => absurd (by decide) q)
  refine et_aload_n (i := 0) d_M_renumber_180 rfl rfl ?_
  refine et_iload_n (i := 1) d_M_renumber_181 rfl rfl ?_
  refine et_putf (ci := 7) 12 d_M_renumber_182 h64 rfl in_M ty_M nm_M (by decide) fl_M_126 rfl rfl (fun _ => rfl) (fun _ => rfl) (Nat.le_of_ble_eq_true rfl) (fs' := [_, _, _, _, _, _, _, _, _, _, _, _, _, _, _, _, _, _, _, _, _, _, _, _, _, _, _, _, _, _, _, _, _]) rfl ?_
  refine et_iconst (v := 0) d_M_renumber_185 (by decide) ?_
  refine et_istore_n (i := 2) (lv' := [_, _, _, _]) d_M_renumber_186 rfl (by decide) rfl rfl ?_
  refine et_iload_n (i := 2) d_M_renumber_187 rfl rfl ?_
  refine et_iload_n (i := 1) d_M_renumber_188 rfl rfl ?_
  refine et_icmp_ge (tgt := 205) d_M_renumber_189 (by decide) (fun _ => ?_) (fun q => absurd (by decide) q)
  exact et_vret d_M_renumber_205 rfl (Nat.le_of_ble_eq_true rfl) (Nat.le_of_ble_eq_true rfl) ⟨rfl, rfl, rfl⟩
set_option maxHeartbeats 4000000 in
set_option maxRecDepth 100000 in
theorem c0_M_close {sc : et_X} {h : Nat → et_MC} {d n : Nat} {th le a_ wr en al se ru un rs : Int32} {dc ds : Int64} (h64 : h 64 = et_Mo th le a_ wr en al se ru 0 0 un rs dc ds) : et_Cn sc Y_M_close (d + 1) [.ref 64] h n 0 0 (fun r h' n' => r = .inl none ∧ n' = n ∧ h' = va_up h 64 (et_Mo th le a_ wr en al se ru 0 0 un rs dc ds)) := by
  refine et_Cn.of 3 rfl rfl (by decide) mV_M_close.1 ?_
  refine et_iconst (v := 1) d_M_close_0 (by decide) ?_
  refine et_istore_n (i := 1) (lv' := [_, _, _, _]) d_M_close_1 rfl (by decide) rfl rfl ?_
  refine et_iload_n (i := 1) d_M_close_2 rfl rfl ?_
  refine et_if_eq (tgt := 145) d_M_close_3 (by decide) (fun q => absurd q (by decide)) (fun _ => ?_)
  refine et_iconst (v := 0) d_M_close_6 (by decide) ?_
  refine et_istore_n (i := 1) (lv' := [_, _, _, _]) d_M_close_7 rfl (by decide) rfl rfl ?_
  refine et_iconst (v := 0) d_M_close_8 (by decide) ?_
  refine et_istore_n (i := 2) (lv' := [_, _, _, _]) d_M_close_9 rfl (by decide) rfl rfl ?_
  refine et_iload_n (i := 2) d_M_close_10 rfl rfl ?_
  refine et_aload_n (i := 0) d_M_close_11 rfl rfl ?_
  refine et_getf (ci := 7) 11 d_M_close_12 h64 rfl in_M (by decide) fl_M_119 rfl ?_
  refine et_icmp_ge (tgt := 142) d_M_close_15 (by decide) (fun _ => ?_) (fun q => absurd (by decide) q)
  refine et_goto (tgt := 2) d_M_close_142 (by decide) ?_
  refine et_iload_n (i := 1) d_M_close_2 rfl rfl ?_
  refine et_if_eq (tgt := 145) d_M_close_3 (by decide) (fun _ => ?_) (fun q => absurd (by decide) q)
  refine et_aload_n (i := 0) d_M_close_145 rfl rfl ?_
  refine et_invV mV_M_renumber (As := []) rfl d_M_close_146 lk_M_154 len_M_renumber h64 rfl (Nat.le_of_ble_eq_true rfl) (c0_M_renumber (d := d) h64) (Nat.le_refl _) (Nat.le_of_ble_eq_true rfl) (Nat.le_of_ble_eq_true rfl) (fun v h' n' hp => ?_) (fun x h' n' hp => by cases hp.1)
  obtain ⟨hv, rfl, rfl⟩ := hp
  cases hv
  exact et_vret d_M_close_149 rfl (Nat.le_of_ble_eq_true rfl) (Nat.le_of_ble_eq_true rfl) ⟨rfl, rfl, rfl⟩
set_option maxHeartbeats 4000000 in
set_option maxRecDepth 100000 in
theorem c0_M_oneRound {sc : et_X} {h : Nat → et_MC} {d n : Nat} {th le a_ wr en al se un rs : Int32} {dc ds : Int64} (h64 : h 64 = et_Mo th le a_ wr en al se 0 0 0 un rs dc ds) {f1 f2 f3 : Nat → Int32} (h76 : h 76 = .inl (0, 128, .inl f1)) (h77 : h 77 = .inl (0, 80, .inl f2)) (h78 : h 78 = .inl (0, 4800, .inl f3)) : et_Cn sc Y_M_oneRound (d + 2) [.ref 64] h n 0 0 (fun r h' n' => r = .inl (some (.int 0)) ∧ n' = n ∧ h' 64 = et_Mo th le a_ wr en al se 0 0 0 0 rs dc ds ∧ ∀ k, k ≠ 64 → k ≠ 76 → k ≠ 77 → k ≠ 78 → h' k = h k) := by
  refine et_Cn.of 3 rfl rfl (by decide) mV_M_oneRound.1 ?_
  refine et_aload_n (i := 0) d_M_oneRound_0 rfl rfl ?_
  refine et_getf (ci := 7) 11 d_M_oneRound_1 h64 rfl in_M (by decide) fl_M_119 rfl ?_
  refine et_istore_n (i := 1) (lv' := [_, _, _, _]) d_M_oneRound_4 rfl (by decide) rfl rfl ?_
  refine et_aload_n (i := 0) d_M_oneRound_5 rfl rfl ?_
  refine et_getf (ci := 7) 12 d_M_oneRound_6 h64 rfl in_M (by decide) fl_M_126 rfl ?_
  refine et_istore_n (i := 2) (lv' := [_, _, _, _]) d_M_oneRound_9 rfl (by decide) rfl rfl ?_
  refine et_aload_n (i := 0) d_M_oneRound_10 rfl rfl ?_
  refine et_iconst (v := 0) d_M_oneRound_11 (by decide) ?_
  refine et_putf (ci := 7) 19 d_M_oneRound_12 h64 rfl in_M ty_M nm_M (by decide) fl_M_139 rfl rfl (fun _ => rfl) (fun _ => rfl) (Nat.le_of_ble_eq_true rfl) (fs' := [_, _, _, _, _, _, _, _, _, _, _, _, _, _, _, _, _, _, _, _, _, _, _, _, _, _, _, _, _, _, _, _, _]) rfl ?_
  refine et_aload_n (i := 0) d_M_oneRound_15 rfl rfl ?_
  refine et_invV mV_M_fillTables (As := []) rfl d_M_oneRound_16 lk_M_186 len_M_fillTables rfl rfl (Nat.le_of_ble_eq_true rfl) (c0_M_fillTables (d := d) rfl h76 h77 h78) (by omega) (Nat.le_of_ble_eq_true rfl) (Nat.le_of_ble_eq_true rfl) (fun v ha n' hp => ?_) (fun x h' n' hp => by cases hp.1)
  obtain ⟨hv, rfl, fr⟩ := hp
  cases hv
  have g64 := fr 64 (by decide) (by decide) (by decide)
  replace g64 : ha 64 = et_Mo th le a_ wr en al se 0 0 0 0 rs dc ds := g64
  refine et_iconst (v := 0) d_M_oneRound_19 (by decide) ?_
  refine et_istore_n (i := 3) (lv' := [_, _, _, _]) d_M_oneRound_20 rfl (by decide) rfl rfl ?_
  refine et_iload_n (i := 3) d_M_oneRound_21 rfl rfl ?_
  refine et_aload_n (i := 0) d_M_oneRound_22 rfl rfl ?_
  refine et_getf (ci := 7) 8 d_M_oneRound_23 g64 rfl in_M (by decide) fl_M_113 rfl ?_
  refine et_icmp_ge (tgt := 41) d_M_oneRound_26 (by decide) (fun _ => ?_) (fun q => absurd (by decide) q)
  refine et_aload_n (i := 0) d_M_oneRound_41 rfl rfl ?_
  refine et_getf (ci := 7) 11 d_M_oneRound_42 g64 rfl in_M (by decide) fl_M_119 rfl ?_
  refine et_bipush (v := 40) d_M_oneRound_45 (by decide) ?_
  refine et_icmp_le (tgt := 59) d_M_oneRound_47 (by decide) (fun _ => ?_) (fun q => absurd (by decide) q)
  refine et_aload_n (i := 0) d_M_oneRound_59 rfl rfl ?_
  refine et_getf (ci := 7) 11 d_M_oneRound_60 g64 rfl in_M (by decide) fl_M_119 rfl ?_
  refine et_iload_n (i := 1) d_M_oneRound_63 rfl rfl ?_
  refine et_icmp_le (tgt := 71) d_M_oneRound_64 (by decide) (fun _ => ?_) (fun q => absurd (by decide) q)
  refine et_iconst (v := 0) d_M_oneRound_71 (by decide) ?_
  refine et_istore_n (i := 3) (lv' := [_, _, _, _]) d_M_oneRound_72 rfl (by decide) rfl rfl ?_
  refine et_aload_n (i := 0) d_M_oneRound_73 rfl rfl ?_
  refine et_invV mV_M_close (As := []) rfl d_M_oneRound_74 lk_M_166 len_M_close g64 rfl (Nat.le_of_ble_eq_true rfl) (c0_M_close (d := d) g64) (Nat.le_refl _) (Nat.le_of_ble_eq_true rfl) (Nat.le_of_ble_eq_true rfl) (fun v h' n' hp => ?_) (fun x h' n' hp => by cases hp.1)
  obtain ⟨hv, rfl, rfl⟩ := hp
  cases hv
  refine et_iload_n (i := 3) d_M_oneRound_77 rfl rfl ?_
  refine et_if_ne (tgt := 88) d_M_oneRound_78 (by decide) (fun q => absurd (by decide) q) (fun _ => ?_)
  refine et_aload_n (i := 0) d_M_oneRound_81 rfl rfl ?_
  refine et_getf (ci := 7) 19 d_M_oneRound_82 rfl rfl in_M (by decide) fl_M_139 rfl ?_
  refine et_if_eq (tgt := 92) d_M_oneRound_85 (by decide) (fun _ => ?_) (fun q => absurd (by decide) q)
  refine et_iconst (v := 0) d_M_oneRound_92 (by decide) ?_
  exact et_iret d_M_oneRound_93 rfl (Nat.le_of_ble_eq_true rfl) (Nat.le_of_ble_eq_true rfl) ⟨rfl, rfl, rfl, fun k e1 e2 e3 e4 => by simp [va_up, e1, fr k e2 e3 e4]⟩
set_option maxHeartbeats 4000000 in
set_option maxRecDepth 100000 in
theorem c0_M_rounds {sc : et_X} {h : Nat → et_MC} {d n : Nat} {th le a_ wr en al se un rs : Int32} {dc ds : Int64} (x : Int32) (h64 : h 64 = et_Mo th le a_ wr en al se 0 0 0 un rs dc ds) {f1 f2 f3 : Nat → Int32} (h76 : h 76 = .inl (0, 128, .inl f1)) (h77 : h 77 = .inl (0, 80, .inl f2)) (h78 : h 78 = .inl (0, 4800, .inl f3)) : et_Cn sc Y_M_rounds (d + 3) [.ref 64, .int x] h n 0 0 (fun r h' n' => r = .inl (some (.int 0)) ∧ n' = n ∧ (∃ fs : List Value, h' 64 = .inr (7, .int (if 0 ≤ x ∧ x ≤ 20 then 0 else 1) :: fs)) ∧ ∀ k, k ≠ 64 → k ≠ 76 → k ≠ 77 → k ≠ 78 → h' k = h k) := by
  refine et_Cn.of 2 rfl rfl (by decide) mV_M_rounds.1 ?_
  refine et_aload_n (i := 0) d_M_rounds_0 rfl rfl ?_
  refine et_iload_n (i := 1) d_M_rounds_1 rfl rfl ?_
  refine et_iconst (v := 0) d_M_rounds_2 (by decide) ?_
  refine et_bipush (v := 20) d_M_rounds_3 (by decide) ?_
  refine et_invS mS_M_within (As := [_, _, _]) rfl d_M_rounds_5 lk_M_75 len_M_within (Nat.le_of_ble_eq_true rfl) (c_M_within (d := d) x 0 20) (by omega) (Nat.le_of_ble_eq_true rfl) (Nat.le_of_ble_eq_true rfl) (fun v h' n' hp => ?_) (fun x h' n' hp => by cases hp.1)
  obtain ⟨hv, rfl, rfl⟩ := hp
  cases hv
  by_cases e : 0 ≤ x ∧ x ≤ 20
  · rw [if_pos e, if_pos e]
    refine et_if_eq (tgt := 15) d_M_rounds_8 (by decide) (fun q => absurd q (by decide)) (fun _ => ?_)
    refine et_iconst (v := 0) d_M_rounds_11 (by decide) ?_
    refine et_goto (tgt := 16) d_M_rounds_12 (by decide) ?_
    refine et_putf (ci := 7) 0 d_M_rounds_16 h64 rfl in_M ty_M nm_M (by decide) fl_M_72 rfl rfl (fun _ => rfl) (fun _ => rfl) (Nat.le_of_ble_eq_true rfl) (fs' := [_, _, _, _, _, _, _, _, _, _, _, _, _, _, _, _, _, _, _, _, _, _, _, _, _, _, _, _, _, _, _, _, _]) rfl ?_
    refine et_aload_n (i := 0) d_M_rounds_19 rfl rfl ?_
    refine et_getf (ci := 7) 0 d_M_rounds_20 rfl rfl in_M (by decide) fl_M_72 rfl ?_
    refine et_if_le (tgt := 28) d_M_rounds_23 (by decide) (fun _ => ?_) (fun q => absurd (by decide) q)
    refine et_iconst (v := 0) d_M_rounds_28 (by decide) ?_
    refine et_istore_n (i := 2) (lv' := [_, _, _, _]) d_M_rounds_29 rfl (by decide) rfl rfl ?_
    refine et_iload_n (i := 2) d_M_rounds_30 rfl rfl ?_
    refine et_iload_n (i := 1) d_M_rounds_31 rfl rfl ?_
    refine et_icmp_ge (tgt := 64) d_M_rounds_32 (by decide) (fun q => ?_) (fun q => ?_)
    · refine et_iload_n (i := 2) d_M_rounds_64 rfl rfl ?_
      exact et_iret d_M_rounds_65 rfl (Nat.le_of_ble_eq_true rfl) (Nat.le_of_ble_eq_true rfl) ⟨rfl, rfl, ⟨_, rfl⟩, fun k e1 _ _ _ => by simp [va_up, e1]⟩
    refine et_aload_n (i := 0) d_M_rounds_35 rfl rfl ?_
    refine et_invV mV_M_oneRound (As := []) rfl d_M_rounds_36 lk_M_192 len_M_oneRound rfl rfl (Nat.le_of_ble_eq_true rfl) (c0_M_oneRound (d := d) rfl h76 h77 h78) (Nat.le_refl _) (Nat.le_of_ble_eq_true rfl) (Nat.le_of_ble_eq_true rfl) (fun v ha n' hp => ?_) (fun x h' n' hp => by cases hp.1)
    obtain ⟨hv, rfl, g64, fr⟩ := hp
    cases hv
    refine et_istore_n (i := 3) (lv' := [_, _, _, _]) d_M_rounds_39 rfl (by decide) rfl rfl ?_
    refine et_iload_n (i := 3) d_M_rounds_40 rfl rfl ?_
    refine et_iconst (v := 1) d_M_rounds_41 (by decide) ?_
    refine et_icmp_eq (tgt := 58) d_M_rounds_42 (by decide) (fun q => absurd q (by decide)) (fun _ => ?_)
    refine et_iload_n (i := 3) d_M_rounds_45 rfl rfl ?_
    refine et_bipush (v := (-2)) d_M_rounds_46 (by decide) ?_
    refine et_icmp_ne (tgt := 56) d_M_rounds_48 (by decide) (fun _ => ?_) (fun q => absurd q (by decide))
    refine et_iload_n (i := 2) d_M_rounds_56 rfl rfl ?_
    exact et_iret d_M_rounds_57 rfl (Nat.le_of_ble_eq_true rfl) (Nat.le_of_ble_eq_true rfl) ⟨rfl, rfl, ⟨_, g64⟩, fun k e1 e2 e3 e4 => (fr k e1 e2 e3 e4).trans (by simp [va_up, e1])⟩
  · rw [if_neg e, if_neg e]
    refine et_if_eq (tgt := 15) d_M_rounds_8 (by decide) (fun _ => ?_) (fun q => absurd (by decide) q)
    refine et_iconst (v := 1) d_M_rounds_15 (by decide) ?_
    refine et_putf (ci := 7) 0 d_M_rounds_16 h64 rfl in_M ty_M nm_M (by decide) fl_M_72 rfl rfl (fun _ => rfl) (fun _ => rfl) (Nat.le_of_ble_eq_true rfl) (fs' := [_, _, _, _, _, _, _, _, _, _, _, _, _, _, _, _, _, _, _, _, _, _, _, _, _, _, _, _, _, _, _, _, _]) rfl ?_
    refine et_aload_n (i := 0) d_M_rounds_19 rfl rfl ?_
    refine et_getf (ci := 7) 0 d_M_rounds_20 rfl rfl in_M (by decide) fl_M_72 rfl ?_
    refine et_if_le (tgt := 28) d_M_rounds_23 (by decide) (fun q => absurd q (by decide)) (fun _ => ?_)
    refine et_iconst (v := 0) d_M_rounds_26 (by decide) ?_
    exact et_iret d_M_rounds_27 rfl (Nat.le_of_ble_eq_true rfl) (Nat.le_of_ble_eq_true rfl) ⟨rfl, rfl, ⟨_, rfl⟩, fun k e1 _ _ _ => by simp [va_up, e1]⟩
end
section
theorem et_lshr {sc : et_X} {Y : et_Y} {d mc ms : Nat} {Post : et_R → (Nat → et_MC) → Nat → Prop} {pc : Nat} {lv : List (Option Value)} {st : List Value} {h : Nat → et_MC} {n nc ns : Nat} {x v : Int64} {y : Int32} (hdg : decode Y.2.1 pc = .ok (.lshr, 1)) (hv : x >>> (y.toInt64 &&& 63) = v) (k : et_M sc Y d mc ms Post (pc + 1) lv (.long v :: st) h n nc ns) : et_M sc Y d mc ms Post pc lv (.int y :: .long x :: st) h n nc ns := by
  intro p l e R s m args below meth c B D dA ls H locs C hP hF hL hl
  exact lv_lshr (rest := st.map (et_em B)) C.1 C.2.1 hdg hv (k p l e R s m args below meth c B D dA ls H locs C hP hF hL hl)
theorem et_bv (x : BitVec 64) (s : Nat) (hs : s ≤ 56) : (x.sshiftRight s) &&& 255#64 = (x >>> s) &&& 255#64 := by
  have h255 : ∀ i, i < 64 → ¬ i < 8 → (255#64).getLsbD i = false := by decide
  apply BitVec.eq_of_getLsbD_eq
  intro i hi
  rw [BitVec.getLsbD_and, BitVec.getLsbD_and]
  by_cases h8 : i < 8
  · have h1 : s + i < 64 := by omega
    rw [BitVec.getLsbD_sshiftRight, BitVec.getLsbD_ushiftRight]
    simp [h1, show ¬ 64 ≤ i by omega]
  · rw [h255 i hi h8, Bool.and_false, Bool.and_false]
theorem et_sh1 (b D : Int64) (E : UInt64) (s : Nat) (hD : (D.toBitVec.smod 64).toNat = s) (hE : (E.toBitVec % 64).toNat = s) (hs : s ≤ 56) : (b >>> D) &&& 255 = (b.toUInt64 >>> E).toInt64 &&& 255 := by
  apply Int64.toBitVec_inj.mp
  show (b.toBitVec.sshiftRight (D.toBitVec.smod 64).toNat) &&& 255#64 = (b.toBitVec >>> (E.toBitVec % 64).toNat) &&& 255#64
  rw [hD, hE]
  exact et_bv _ _ hs
def et_bl (b : Int64) (i : Int32) : Int64 := ((b.toUInt64 >>> ((8 * i).toInt64.toUInt64 &&& Int64.toUInt64 63)).toInt64) &&& 255
theorem et_bl_by (b : Int64) (i : Int32) : (et_bl b i).toInt32 = et_by b i := rfl
theorem et_sh {k : Nat} (b : Int64) (hk : k < 8) : (b >>> ((8 * nI k).toInt64 &&& 63)) &&& 255 = et_bl b (nI k) := by
  rcases (show k = 0 ∨ k = 1 ∨ k = 2 ∨ k = 3 ∨ k = 4 ∨ k = 5 ∨ k = 6 ∨ k = 7 by omega) with rfl | rfl | rfl | rfl | rfl | rfl | rfl | rfl
  · exact et_sh1 b _ _ 0 (by decide) (by decide) (by decide)
  · exact et_sh1 b _ _ 8 (by decide) (by decide) (by decide)
  · exact et_sh1 b _ _ 16 (by decide) (by decide) (by decide)
  · exact et_sh1 b _ _ 24 (by decide) (by decide) (by decide)
  · exact et_sh1 b _ _ 32 (by decide) (by decide) (by decide)
  · exact et_sh1 b _ _ 40 (by decide) (by decide) (by decide)
  · exact et_sh1 b _ _ 48 (by decide) (by decide) (by decide)
  · exact et_sh1 b _ _ 56 (by decide) (by decide) (by decide)
theorem et_and255 (x : Int64) : ∃ m : Nat, m < 256 ∧ x &&& 255 = lN m := by
  refine ⟨x.toBitVec.toNat % 256, Nat.mod_lt _ (by decide), ?_⟩
  apply Int64.toBitVec_inj.mp
  apply BitVec.eq_of_toNat_eq
  show (x.toBitVec &&& 255#64).toNat = (BitVec.ofNat 64 (x.toBitVec.toNat % 256)).toNat
  rw [BitVec.toNat_and]
  simp only [BitVec.toNat_ofNat]
  have h1 : x.toBitVec.toNat &&& 255 = x.toBitVec.toNat % 256 := Nat.and_two_pow_sub_one_eq_mod x.toBitVec.toNat 8
  have h2 : 255 % 2 ^ 64 = 255 := rfl
  rw [h2, h1]
  omega
/-- a byte, as a long and as an int -/
theorem et_byte (b : Int64) (i : Int32) : ∃ m : Nat, m < 256 ∧ et_bl b i = lN m ∧ et_by b i = nI m := by
  obtain ⟨m, h1, h2⟩ := et_and255 ((b.toUInt64 >>> ((8 * i).toInt64.toUInt64 &&& Int64.toUInt64 63)).toInt64)
  exact ⟨m, h1, h2, by rw [← et_bl_by]; unfold et_bl; rw [h2, lN_i]⟩
end
section
/-- what the model's type leaves: its answer, its cells -/
def et_tM (sz : Nat) (f : Nat → Int32) (th a_ wr en al se ru nd cs un rs : Int32) (dc ds : Int64) (b : Int64) (x : Int32) (h : Nat → et_MC) (r : et_R) (h' : Nat → et_MC) : Prop :=
  (¬ et_tok sz b x ∧ r = .inl (some (.int (-1))) ∧ h' = va_up h 64 (et_Mo 0 (nI sz) a_ wr en al se ru nd cs un rs dc ds)) ∨
  (∃ (N : Nat) (g : Nat → Int32), x = nI N ∧ et_tok sz b x ∧ r = .inl (some (.int (nI (sz + N)))) ∧ h' = va_up (va_up h 65 (.inl (0, 60, .inl g))) 64 (et_Mo 0 (nI (sz + N)) a_ wr en al se ru nd cs un rs dc ds) ∧ (∀ j, j < sz → g j = f j) ∧ ∀ j, j < N → g (sz + j) = et_by b (nI (N - 1 - j)))
theorem et_tM_r {sz : Nat} {f : Nat → Int32} {th a_ wr en al se ru nd cs un rs : Int32} {dc ds : Int64} {b : Int64} {x : Int32} {h h' : Nat → et_MC} {r : et_R} (hp : et_tM sz f th a_ wr en al se ru nd cs un rs dc ds b x h r h') : ∃ w : Int32, r = .inl (some (.int w)) := by
  rcases hp with ⟨-, z, -⟩ | ⟨N, g, -, -, z, -⟩
  · exact ⟨_, z⟩
  · exact ⟨_, z⟩
theorem et_up6 {α : Type} (h : Nat → α) (A T A' T' : α) : va_up (va_up (va_up (va_up h 65 A) 64 T) 65 A') 64 T' = va_up (va_up h 65 A') 64 T' := by
  funext k
  by_cases e1 : k = 64
  · simp [va_up, e1]
  · by_cases e2 : k = 65 <;> simp [va_up, e1, e2]
set_option maxHeartbeats 4000000 in
set_option maxRecDepth 100000 in
theorem c_M_type {sc : et_X} {h : Nat → et_MC} {d n : Nat} {th a_ wr en al se ru nd cs un rs : Int32} {dc ds : Int64} {sz : Nat} {f : Nat → Int32} (b : Int64) (x : Int32) (hsz : sz ≤ 60) (h64 : h 64 = et_Mo th (nI sz) a_ wr en al se ru nd cs un rs dc ds) (h65 : h 65 = .inl (0, 60, .inl f)) : et_Cn sc Y_M_type (d + 1) [.ref 64, .long b, .int x] h n 0 0 (fun r h' n' => n' = n ∧ et_tM sz f th a_ wr en al se ru nd cs un rs dc ds b x h r h') := by
  refine et_Cn.of 3 rfl rfl (by decide) mV_M_type.1 ?_
  have e1 : (1 : Int32).toInt = 1 := rfl
  have e0 : (0 : Int32).toInt = 0 := rfl
  have e8 : (8 : Int32).toInt = 8 := rfl
  have e60 : (60 : Int32).toInt = 60 := rfl
  refine et_aload_n (i := 0) d_M_type_0 rfl rfl ?_
  refine et_iconst (v := 0) d_M_type_1 (by decide) ?_
  refine et_putf (ci := 7) 0 d_M_type_2 h64 rfl in_M ty_M nm_M (by decide) fl_M_72 rfl rfl (fun _ => rfl) (fun _ => rfl) (Nat.le_of_ble_eq_true rfl) (fs' := [_, _, _, _, _, _, _, _, _, _, _, _, _, _, _, _, _, _, _, _, _, _, _, _, _, _, _, _, _, _, _, _, _]) rfl ?_
  refine et_iload_n (i := 3) d_M_type_5 rfl rfl ?_
  refine et_iconst (v := 1) d_M_type_6 (by decide) ?_
  refine et_bipush (v := 8) d_M_type_7 (by decide) ?_
  refine et_invS mS_M_within (As := [_, _, _]) rfl d_M_type_9 lk_M_75 len_M_within (Nat.le_of_ble_eq_true rfl) (c_M_within (d := d) x 1 8) (Nat.le_refl _) (Nat.le_of_ble_eq_true rfl) (Nat.le_of_ble_eq_true rfl) (fun v h' n' hp => ?_) (fun x h' n' hp => by cases hp.1)
  obtain ⟨hv, hn2, hh2⟩ := hp
  cases hv
  subst hh2
  replace hn2 := hn2.symm
  subst hn2
  by_cases ew : 1 ≤ x ∧ x ≤ 8
  rotate_left
  · rw [if_neg ew]
    refine et_if_eq (tgt := 26) d_M_type_12 (by decide) (fun _ => ?_) (fun q => absurd (by decide) q)
    refine et_iconst (v := (-1)) d_M_type_26 (by decide) ?_
    exact et_iret d_M_type_27 rfl (Nat.le_of_ble_eq_true rfl) (Nat.le_of_ble_eq_true rfl) ⟨rfl, Or.inl ⟨fun ⟨N, z1, z2, z3, _⟩ => ew (by rw [z1]; exact ⟨nI_le (a := 1) (b := N) z2 (by omega), nI_le (a := N) (b := 8) z3 (by decide)⟩), rfl, rfl⟩⟩
  rw [if_pos ew]
  refine et_if_eq (tgt := 26) d_M_type_12 (by decide) (fun q => absurd q (by decide)) (fun _ => ?_)
  have c1 := et_le_i ew.1
  have c2 := et_le_i ew.2
  rw [e1] at c1
  rw [e8] at c2
  obtain ⟨N, hN8, hx⟩ : ∃ N : Nat, N ≤ 8 ∧ x = nI N := nI_of2 (M := 8) e8 (fun z => by have := et_lt_i z; rw [e0] at this; omega) ew.2
  subst hx
  rw [nI_toInt (by omega)] at c1
  have key : ∀ N', nI N = nI N' → N' ≤ 8 → N = N' := fun N' z1 z2 => (nI_eq (by omega) (by omega)).mp z1
  refine et_aload_n (i := 0) d_M_type_15 rfl rfl ?_
  refine et_getf (ci := 7) 2 d_M_type_16 rfl rfl in_M (by decide) fl_M_79 rfl ?_
  refine et_iload_n (i := 3) d_M_type_19 rfl rfl ?_
  refine et_iadd d_M_type_20 ?_
  refine et_bipush (v := 60) d_M_type_21 (by decide) ?_
  refine et_icmp_le (tgt := 28) d_M_type_23 (by decide) (fun q3 => ?_) (fun q3 => ?_)
  rotate_left
  · have c3 := et_nle_i q3
    rw [nI_add, nI_toInt (by omega), e60] at c3
    refine et_iconst (v := (-1)) d_M_type_26 (by decide) ?_
    exact et_iret d_M_type_27 rfl (Nat.le_of_ble_eq_true rfl) (Nat.le_of_ble_eq_true rfl) ⟨rfl, Or.inl ⟨fun ⟨N', z1, z2, z3, z4, _⟩ => by have := key N' z1 z3; omega, rfl, rfl⟩⟩
  have c3 := et_le_i q3
  rw [nI_add, nI_toInt (by omega), e60] at c3
  -- the writes
  have wr' : ∀ (t : Nat) (g : Nat → Int32) (hh : Nat → et_MC) (o5 : Option Value), t ≤ N → (∀ i, i < N → 33 ≤ et_by b (nI i) ∧ et_by b (nI i) ≤ 126) → hh = va_up (va_up h 65 (.inl (0, 60, .inl g))) 64 (et_Mo 0 (nI (sz + (N - t))) a_ wr en al se ru nd cs un rs dc ds) → (∀ j, j < sz → g j = f j) → (∀ j, j < N - t → g (sz + j) = et_by b (nI (N - 1 - j))) →
      et_M sc Y_M_type (d + 1) 0 0 (fun r h' n' => n' = n ∧ et_tM sz f th a_ wr en al se ru nd cs un rs dc ds b (nI N) h r h') 81 [some (.ref 64), some (.long b), none, some (.int (nI N)), some (.int (nI t - 1)), o5, none] [] hh n 0 0 := by
    intro t
    induction t with
    | zero =>
      intro g hh o5 ht hok he hg1 hg2
      subst he
      refine et_iload d_M_type_81 rfl ?_
      refine et_if_lt (tgt := 123) d_M_type_83 (by decide) (fun _ => ?_) (fun q => absurd (show nI 0 - 1 < 0 by decide) q)
      refine et_aload_n (i := 0) d_M_type_123 rfl rfl ?_
      refine et_getf (ci := 7) 2 d_M_type_124 rfl rfl in_M (by decide) fl_M_79 rfl ?_
      exact et_iret d_M_type_127 rfl (Nat.le_of_ble_eq_true rfl) (Nat.le_of_ble_eq_true rfl) ⟨rfl, Or.inr ⟨N, g, rfl, ⟨N, rfl, by omega, hN8, by omega, hok⟩, by simp, by simp, hg1, by simpa using hg2⟩⟩
    | succ t ih =>
      intro g hh o5 ht hok he hg1 hg2
      subst he
      rw [nI_pred]
      refine et_iload d_M_type_81 rfl ?_
      refine et_if_lt (tgt := 123) d_M_type_83 (by decide) (fun q => absurd q (nI_pos (by omega))) (fun _ => ?_)
      refine et_aload_n (i := 0) d_M_type_86 rfl rfl ?_
      refine et_getf (ci := 7) 1 d_M_type_87 rfl rfl in_M (by decide) fl_M_7 rfl ?_
      refine et_aload_n (i := 0) d_M_type_90 rfl rfl ?_
      refine et_getf (ci := 7) 2 d_M_type_91 rfl rfl in_M (by decide) fl_M_79 rfl ?_
      refine et_lload_n (i := 1) d_M_type_94 rfl rfl ?_
      refine et_bipush (v := 8) d_M_type_95 (by decide) ?_
      refine et_iload d_M_type_97 rfl ?_
      refine et_imul d_M_type_99 ?_
      refine et_lshr d_M_type_100 rfl ?_
      refine et_ldc2 d_M_type_101 kl_M_82 ?_
      refine et_land d_M_type_104 ?_
      rw [et_sh b (show t < 8 by omega)]
      refine et_l2i (v := et_by b (nI t)) d_M_type_105 rfl ?_
      refine et_iast d_M_type_106 rfl (vp_in_nI (show sz + (N - (t + 1)) < 60 by omega) (by decide)) ?_
      refine et_aload_n (i := 0) d_M_type_107 rfl rfl ?_
      refine et_dup d_M_type_108 rfl ?_
      refine et_getf (ci := 7) 2 d_M_type_109 rfl rfl in_M (by decide) fl_M_79 rfl ?_
      refine et_iconst (v := 1) d_M_type_112 (by decide) ?_
      refine et_iadd d_M_type_113 ?_
      refine et_putf (ci := 7) 2 d_M_type_114 rfl rfl in_M ty_M nm_M (by decide) fl_M_79 rfl rfl (fun _ => rfl) (fun _ => rfl) (Nat.le_of_ble_eq_true rfl) (fs' := [_, _, _, _, _, _, _, _, _, _, _, _, _, _, _, _, _, _, _, _, _, _, _, _, _, _, _, _, _, _, _, _, _]) rfl ?_
      refine et_iinc (lv' := [_, _, _, _, _, _, _]) d_M_type_117 rfl (v := nI t - 1) (et_m1 _) (by decide) rfl rfl ?_
      refine et_goto (tgt := 81) d_M_type_120 (by decide) ?_
      refine ih (upd g (nI (sz + (N - (t + 1)))).toNatClampNeg (et_by b (nI t))) _ o5 (by omega) hok ?_ (fun j hj => ?_) (fun j hj => ?_)
      · rw [et_up6, nI_1, show sz + (N - (t + 1)) + 1 = sz + (N - t) by omega]
      · rw [nI_clamp (by omega), pk_un (by omega)]
        exact hg1 j hj
      · rw [nI_clamp (by omega)]
        by_cases e : j = N - (t + 1)
        · rw [e, pk_us]
          congr 2
          omega
        · rw [pk_un (by omega)]
          exact hg2 j (by omega)
  -- the checks
  have ck : ∀ (t i : Nat) (o5 : Option Value), i + t = N → (∀ j, j < i → 33 ≤ et_by b (nI j) ∧ et_by b (nI j) ≤ 126) →
      et_M sc Y_M_type (d + 1) 0 0 (fun r h' n' => n' = n ∧ et_tM sz f th a_ wr en al se ru nd cs un rs dc ds b (nI N) h r h') 31 [some (.ref 64), some (.long b), none, some (.int (nI N)), some (.int (nI i)), o5, none] [] (va_up h 64 (et_Mo 0 (nI sz) a_ wr en al se ru nd cs un rs dc ds)) n 0 0 := by
    intro t
    induction t with
    | zero =>
      intro i o5 hi hok
      obtain rfl : i = N := by omega
      refine et_iload d_M_type_31 rfl ?_
      refine et_iload_n (i := 3) d_M_type_33 rfl rfl ?_
      refine et_icmp_ge (tgt := 76) d_M_type_34 (by decide) (fun _ => ?_) (fun q => absurd (nI_le (Nat.le_refl _) (by omega)) q)
      refine et_iload_n (i := 3) d_M_type_76 rfl rfl ?_
      refine et_iconst (v := 1) d_M_type_77 (by decide) ?_
      refine et_isub d_M_type_78 ?_
      refine et_istore (lv' := [_, _, _, _, _, _, _]) d_M_type_79 (by decide) rfl rfl ?_
      refine wr' i f _ o5 (Nat.le_refl _) hok ?_ (fun j _ => rfl) (fun j hj => absurd hj (by omega))
      rw [Nat.sub_self, Nat.add_zero, et_upself h65]
    | succ t ih =>
      intro i o5 hi hok
      obtain ⟨mm, hm1, hm2, hm3⟩ := et_byte b (nI i)
      refine et_iload d_M_type_31 rfl ?_
      refine et_iload_n (i := 3) d_M_type_33 rfl rfl ?_
      refine et_icmp_ge (tgt := 76) d_M_type_34 (by decide) (fun q => absurd q (nI_ge (by omega) (by omega))) (fun _ => ?_)
      refine et_lload_n (i := 1) d_M_type_37 rfl rfl ?_
      refine et_bipush (v := 8) d_M_type_38 (by decide) ?_
      refine et_iload d_M_type_40 rfl ?_
      refine et_imul d_M_type_42 ?_
      refine et_lshr d_M_type_43 rfl ?_
      refine et_ldc2 d_M_type_44 kl_M_82 ?_
      refine et_land d_M_type_47 ?_
      rw [et_sh b (show i < 8 by omega), hm2]
      refine et_lstore (lv' := [_, _, _, _, _, _, _]) d_M_type_48 (by decide) rfl rfl ?_
      refine et_lload d_M_type_50 rfl ?_
      refine et_ldc2 d_M_type_52 kl_M_84 ?_
      refine et_lcmp d_M_type_55 ?_
      refine et_if_lt (tgt := 68) d_M_type_56 (by decide) (fun q4 => ?_) (fun q4 => ?_)
      · have q4 : mm < 33 := (lN_lt (by omega) (by decide)).mp ((lg_cmp_lt _ _).mp q4)
        refine et_iconst (v := (-1)) d_M_type_68 (by decide) ?_
        exact et_iret d_M_type_69 rfl (Nat.le_of_ble_eq_true rfl) (Nat.le_of_ble_eq_true rfl) ⟨rfl, Or.inl ⟨fun ⟨N', z1, z2, z3, z4, z5⟩ => by have e9 := key N' z1 z3; have z6 := (z5 i (by omega)).1; rw [hm3] at z6; exact absurd z6 (nI_ge (a := mm) (b := 33) q4 (by decide)), rfl, rfl⟩⟩
      refine et_lload d_M_type_59 rfl ?_
      refine et_ldc2 d_M_type_61 kl_M_86 ?_
      refine et_lcmp d_M_type_64 ?_
      refine et_if_le (tgt := 70) d_M_type_65 (by decide) (fun q5 => ?_) (fun q5 => ?_)
      rotate_left
      · have q5 : 126 < mm := Nat.not_le.mp (fun z => q5 ((lg_cmp_le _ _).mpr ((lN_le (b := 126) (by omega) (by decide)).mpr z)))
        refine et_iconst (v := (-1)) d_M_type_68 (by decide) ?_
        exact et_iret d_M_type_69 rfl (Nat.le_of_ble_eq_true rfl) (Nat.le_of_ble_eq_true rfl) ⟨rfl, Or.inl ⟨fun ⟨N', z1, z2, z3, z4, z5⟩ => by have e9 := key N' z1 z3; have z6 := (z5 i (by omega)).2; rw [hm3] at z6; exact absurd z6 (nI_ge (a := 126) (b := mm) q5 (by omega)), rfl, rfl⟩⟩
      refine et_iinc (lv' := [_, _, _, _, _, _, _]) d_M_type_70 rfl (v := nI (i + 1)) (nI_1 i) (by decide) rfl rfl ?_
      refine et_goto (tgt := 31) d_M_type_73 (by decide) ?_
      refine ih (i + 1) _ (by omega) (fun j hj => ?_)
      by_cases e : j = i
      · rw [e, hm3]
        have q6 : ¬ mm < 33 := fun z => q4 ((lg_cmp_lt _ _).mpr ((lN_lt (b := 33) (by omega) (by decide)).mpr z))
        have q7 : mm ≤ 126 := (lN_le (b := 126) (by omega) (by decide)).mp ((lg_cmp_le _ _).mp q5)
        exact ⟨nI_le (a := 33) (b := mm) (by omega) (by omega), nI_le (a := mm) (b := 126) q7 (by decide)⟩
      · exact hok j (by omega)
  refine et_iconst (v := 0) d_M_type_28 (by decide) ?_
  refine et_istore (lv' := [_, _, _, _, _, _, _]) d_M_type_29 (by decide) rfl rfl ?_
  exact ck N 0 none (by omega) (fun j hj => absurd hj (Nat.not_lt_zero j))
end
section
/-! ===== the law's helpers, over any contract of the method that they call ===== -/
def et_lp (Pc : et_R → (Nat → et_MC) → Nat → Prop) : et_R → (Nat → et_MC) → Nat → Prop := fun r h' n' =>
  (∃ (w : Int32) (h0 : Nat → et_MC), Pc (.inl (some (.int w))) h0 n' ∧ r = .inl (some (.int 0)) ∧ (∀ k, k ≠ 84 → h' k = h0 k) ∧ ∃ g : Nat → Int64, h' 84 = .inl (1, 1, .inr (.inl g)) ∧ g 0 = w.toInt64) ∨
  (∃ k : Nat, Pc (.inr k) h' n' ∧ r = .inl (some (.int (nI (k + 1)))))
def et_lpL (Pc : et_R → (Nat → et_MC) → Nat → Prop) : et_R → (Nat → et_MC) → Nat → Prop := fun r h' n' =>
  (∃ (w : Int64) (h0 : Nat → et_MC), Pc (.inl (some (.long w))) h0 n' ∧ r = .inl (some (.int 0)) ∧ (∀ k, k ≠ 84 → h' k = h0 k) ∧ ∃ g : Nat → Int64, h' 84 = .inl (1, 1, .inr (.inl g)) ∧ g 0 = w) ∨
  (∃ k : Nat, Pc (.inr k) h' n' ∧ r = .inl (some (.int (nI (k + 1)))))
def et_lpV (Pc : et_R → (Nat → et_MC) → Nat → Prop) : et_R → (Nat → et_MC) → Nat → Prop := fun r h' n' =>
  (Pc (.inl none) h' n' ∧ r = .inl (some (.int 0))) ∨ (∃ k : Nat, Pc (.inr k) h' n' ∧ r = .inl (some (.int (nI (k + 1)))))
/-- what a helper asks of the method's contract: an answer, or one of the exceptions that it catches -/
def et_lok (Pc : et_R → (Nat → et_MC) → Nat → Prop) (two : Bool) : Prop := ∀ r h' n', Pc r h' n' → (∃ (w : Int32) (g : Nat → Int64), r = .inl (some (.int w)) ∧ h' 84 = .inl (1, 1, .inr (.inl g))) ∨ r = .inr 0 ∨ (two = true ∧ r = .inr 1)
def et_lokL (Pc : et_R → (Nat → et_MC) → Nat → Prop) : Prop := ∀ r h' n', Pc r h' n' → (∃ (w : Int64) (g : Nat → Int64), r = .inl (some (.long w)) ∧ h' 84 = .inl (1, 1, .inr (.inl g))) ∨ r = .inr 0
def et_lokV (Pc : et_R → (Nat → et_MC) → Nat → Prop) : Prop := ∀ r h' n', Pc r h' n' → r = .inl none ∨ r = .inr 0
set_option maxHeartbeats 4000000 in
set_option maxRecDepth 100000 in
theorem c_L_rule {sc : et_X} {h : Nat → et_MC} {dc n mcc msc : Nat} {fs : List Value} {Pc : et_R → (Nat → et_MC) → Nat → Prop} (hcn : et_Cn sc Y_E_rule dc [.ref 0] h n mcc msc Pc) (h0 : h 0 = .inr (6, fs)) (hI : et_lok Pc true) : et_Cn sc Y_L_rule (dc + 1) [.ref 0, .ref 84] h n mcc msc (et_lp Pc) := by
  refine et_Cn.of 1 rfl rfl (by decide) mS_L_rule.1 ?_
  refine et_aload_n (i := 1) d_L_rule_0 rfl rfl ?_
  refine et_iconst (v := 0) d_L_rule_1 (by decide) ?_
  refine et_aload_n (i := 0) d_L_rule_2 rfl rfl ?_
  refine et_invVc mV_E_rule (As := []) rfl d_L_rule_3 lk_L_7 len_E_rule h0 rfl (Nat.le_of_ble_eq_true rfl) hcn (Nat.le_refl _) (by omega) (by omega) (fun v h' n' hp => ?_) (fun x a h' n' hp => ?_)
  · rcases hI _ _ _ hp with ⟨w, g, e, hg⟩ | e | ⟨_, e⟩
    · cases e
      refine et_i2l d_L_rule_6 rfl ?_
      refine et_last d_L_rule_7 hg (vp_in_nI (show 0 < 1 by decide) (by decide)) ?_
      refine et_goto (tgt := 17) d_L_rule_8 (by decide) ?_
      refine et_iconst (v := 0) d_L_rule_17 (by decide) ?_
      exact et_iret d_L_rule_18 rfl (by omega) (by omega) (Or.inl ⟨w, h', hp, rfl, fun k e => by simp [va_up, e], _, by simp [va_up]; rfl, by simp [vp_updL]⟩)
    · cases e
    · cases e
  · rcases hI _ _ _ hp with ⟨w, g, e, _⟩ | e | ⟨e2, e⟩
    · cases e
    · cases e
      refine ⟨11, Or.inl ⟨rfl, 0, 8, 13, [(0, 8, 14, 15)], rfl, cl_L_13, ca_0, by decide, by decide, by decide⟩, ?_⟩
      refine et_astore_n (i := 2) (lv' := [_, _, _]) d_L_rule_11 rfl (by decide) rfl rfl ?_
      refine et_iconst (v := 1) d_L_rule_12 (by decide) ?_
      exact et_iret d_L_rule_13 rfl (by omega) (by omega) (Or.inr ⟨0, hp, rfl⟩)
    · cases e
      refine ⟨14, Or.inr ⟨rfl, 0, 8, 11, 13, 0, 8, 15, [], rfl, cl_L_13, cl_L_15, ca_1, by decide, by decide, by decide, by decide, by decide, by decide⟩, ?_⟩
      refine et_astore_n (i := 2) (lv' := [_, _, _]) d_L_rule_14 rfl (by decide) rfl rfl ?_
      refine et_iconst (v := 2) d_L_rule_15 (by decide) ?_
      exact et_iret d_L_rule_16 rfl (by omega) (by omega) (Or.inr ⟨1, hp, rfl⟩)
set_option maxHeartbeats 4000000 in
set_option maxRecDepth 100000 in
theorem c_L_add {sc : et_X} {h : Nat → et_MC} {dc n mcc msc : Nat} {fs : List Value} {Pc : et_R → (Nat → et_MC) → Nat → Prop} (hcn : et_Cn sc Y_E_add dc [.ref 0] h n mcc msc Pc) (h0 : h 0 = .inr (6, fs)) (hI : et_lok Pc true) : et_Cn sc Y_L_add (dc + 1) [.ref 0, .ref 84] h n mcc msc (et_lp Pc) := by
  refine et_Cn.of 1 rfl rfl (by decide) mS_L_add.1 ?_
  refine et_aload_n (i := 1) d_L_add_0 rfl rfl ?_
  refine et_iconst (v := 0) d_L_add_1 (by decide) ?_
  refine et_aload_n (i := 0) d_L_add_2 rfl rfl ?_
  refine et_invVc mV_E_add (As := []) rfl d_L_add_3 lk_L_17 len_E_add h0 rfl (Nat.le_of_ble_eq_true rfl) hcn (Nat.le_refl _) (by omega) (by omega) (fun v h' n' hp => ?_) (fun x a h' n' hp => ?_)
  · rcases hI _ _ _ hp with ⟨w, g, e, hg⟩ | e | ⟨_, e⟩
    · cases e
      refine et_i2l d_L_add_6 rfl ?_
      refine et_last d_L_add_7 hg (vp_in_nI (show 0 < 1 by decide) (by decide)) ?_
      refine et_goto (tgt := 17) d_L_add_8 (by decide) ?_
      refine et_iconst (v := 0) d_L_add_17 (by decide) ?_
      exact et_iret d_L_add_18 rfl (by omega) (by omega) (Or.inl ⟨w, h', hp, rfl, fun k e => by simp [va_up, e], _, by simp [va_up]; rfl, by simp [vp_updL]⟩)
    · cases e
    · cases e
  · rcases hI _ _ _ hp with ⟨w, g, e, _⟩ | e | ⟨e2, e⟩
    · cases e
    · cases e
      refine ⟨11, Or.inl ⟨rfl, 0, 8, 13, [(0, 8, 14, 15)], rfl, cl_L_13, ca_0, by decide, by decide, by decide⟩, ?_⟩
      refine et_astore_n (i := 2) (lv' := [_, _, _]) d_L_add_11 rfl (by decide) rfl rfl ?_
      refine et_iconst (v := 1) d_L_add_12 (by decide) ?_
      exact et_iret d_L_add_13 rfl (by omega) (by omega) (Or.inr ⟨0, hp, rfl⟩)
    · cases e
      refine ⟨14, Or.inr ⟨rfl, 0, 8, 11, 13, 0, 8, 15, [], rfl, cl_L_13, cl_L_15, ca_1, by decide, by decide, by decide, by decide, by decide, by decide⟩, ?_⟩
      refine et_astore_n (i := 2) (lv' := [_, _, _]) d_L_add_14 rfl (by decide) rfl rfl ?_
      refine et_iconst (v := 2) d_L_add_15 (by decide) ?_
      exact et_iret d_L_add_16 rfl (by omega) (by omega) (Or.inr ⟨1, hp, rfl⟩)
set_option maxHeartbeats 4000000 in
set_option maxRecDepth 100000 in
theorem c_L_unite {sc : et_X} {h : Nat → et_MC} {dc n mcc msc : Nat} {fs : List Value} {Pc : et_R → (Nat → et_MC) → Nat → Prop} (hcn : et_Cn sc Y_E_unite dc [.ref 0] h n mcc msc Pc) (h0 : h 0 = .inr (6, fs)) (hI : et_lok Pc true) : et_Cn sc Y_L_unite (dc + 1) [.ref 0, .ref 84] h n mcc msc (et_lp Pc) := by
  refine et_Cn.of 1 rfl rfl (by decide) mS_L_unite.1 ?_
  refine et_aload_n (i := 1) d_L_unite_0 rfl rfl ?_
  refine et_iconst (v := 0) d_L_unite_1 (by decide) ?_
  refine et_aload_n (i := 0) d_L_unite_2 rfl rfl ?_
  refine et_invVc mV_E_unite (As := []) rfl d_L_unite_3 lk_L_20 len_E_unite h0 rfl (Nat.le_of_ble_eq_true rfl) hcn (Nat.le_refl _) (by omega) (by omega) (fun v h' n' hp => ?_) (fun x a h' n' hp => ?_)
  · rcases hI _ _ _ hp with ⟨w, g, e, hg⟩ | e | ⟨_, e⟩
    · cases e
      refine et_i2l d_L_unite_6 rfl ?_
      refine et_last d_L_unite_7 hg (vp_in_nI (show 0 < 1 by decide) (by decide)) ?_
      refine et_goto (tgt := 17) d_L_unite_8 (by decide) ?_
      refine et_iconst (v := 0) d_L_unite_17 (by decide) ?_
      exact et_iret d_L_unite_18 rfl (by omega) (by omega) (Or.inl ⟨w, h', hp, rfl, fun k e => by simp [va_up, e], _, by simp [va_up]; rfl, by simp [vp_updL]⟩)
    · cases e
    · cases e
  · rcases hI _ _ _ hp with ⟨w, g, e, _⟩ | e | ⟨e2, e⟩
    · cases e
    · cases e
      refine ⟨11, Or.inl ⟨rfl, 0, 8, 13, [(0, 8, 14, 15)], rfl, cl_L_13, ca_0, by decide, by decide, by decide⟩, ?_⟩
      refine et_astore_n (i := 2) (lv' := [_, _, _]) d_L_unite_11 rfl (by decide) rfl rfl ?_
      refine et_iconst (v := 1) d_L_unite_12 (by decide) ?_
      exact et_iret d_L_unite_13 rfl (by omega) (by omega) (Or.inr ⟨0, hp, rfl⟩)
    · cases e
      refine ⟨14, Or.inr ⟨rfl, 0, 8, 11, 13, 0, 8, 15, [], rfl, cl_L_13, cl_L_15, ca_1, by decide, by decide, by decide, by decide, by decide, by decide⟩, ?_⟩
      refine et_astore_n (i := 2) (lv' := [_, _, _]) d_L_unite_14 rfl (by decide) rfl rfl ?_
      refine et_iconst (v := 2) d_L_unite_15 (by decide) ?_
      exact et_iret d_L_unite_16 rfl (by omega) (by omega) (Or.inr ⟨1, hp, rfl⟩)
set_option maxHeartbeats 4000000 in
set_option maxRecDepth 100000 in
theorem c_L_same {sc : et_X} {h : Nat → et_MC} {dc n mcc msc : Nat} {fs : List Value} {Pc : et_R → (Nat → et_MC) → Nat → Prop} (hcn : et_Cn sc Y_E_same dc [.ref 0] h n mcc msc Pc) (h0 : h 0 = .inr (6, fs)) (hI : et_lok Pc false) : et_Cn sc Y_L_same (dc + 1) [.ref 0, .ref 84] h n mcc msc (et_lp Pc) := by
  refine et_Cn.of 1 rfl rfl (by decide) mS_L_same.1 ?_
  refine et_aload_n (i := 1) d_L_same_0 rfl rfl ?_
  refine et_iconst (v := 0) d_L_same_1 (by decide) ?_
  refine et_aload_n (i := 0) d_L_same_2 rfl rfl ?_
  refine et_invVc mV_E_same (As := []) rfl d_L_same_3 lk_L_23 len_E_same h0 rfl (Nat.le_of_ble_eq_true rfl) hcn (Nat.le_refl _) (by omega) (by omega) (fun v h' n' hp => ?_) (fun x a h' n' hp => ?_)
  · rcases hI _ _ _ hp with ⟨w, g, e, hg⟩ | e | ⟨_, e⟩
    · cases e
      refine et_i2l d_L_same_6 rfl ?_
      refine et_last d_L_same_7 hg (vp_in_nI (show 0 < 1 by decide) (by decide)) ?_
      refine et_goto (tgt := 14) d_L_same_8 (by decide) ?_
      refine et_iconst (v := 0) d_L_same_14 (by decide) ?_
      exact et_iret d_L_same_15 rfl (by omega) (by omega) (Or.inl ⟨w, h', hp, rfl, fun k e => by simp [va_up, e], _, by simp [va_up]; rfl, by simp [vp_updL]⟩)
    · cases e
    · cases e
  · rcases hI _ _ _ hp with ⟨w, g, e, _⟩ | e | ⟨e2, e⟩
    · cases e
    · cases e
      refine ⟨11, Or.inl ⟨rfl, 0, 8, 13, [], rfl, cl_L_13, ca_0, by decide, by decide, by decide⟩, ?_⟩
      refine et_astore_n (i := 2) (lv' := [_, _, _]) d_L_same_11 rfl (by decide) rfl rfl ?_
      refine et_iconst (v := 1) d_L_same_12 (by decide) ?_
      exact et_iret d_L_same_13 rfl (by omega) (by omega) (Or.inr ⟨0, hp, rfl⟩)
    · cases e2
set_option maxHeartbeats 4000000 in
set_option maxRecDepth 100000 in
theorem c_L_price {sc : et_X} {h : Nat → et_MC} {dc n mcc msc : Nat} {fs : List Value} {Pc : et_R → (Nat → et_MC) → Nat → Prop} (x y : Int32) (hcn : et_Cn sc Y_E_price dc [.ref 0, .int x, .int y] h n mcc msc Pc) (h0 : h 0 = .inr (6, fs)) (hI : et_lokV Pc) : et_Cn sc Y_L_price (dc + 1) [.ref 0, .int x, .int y] h n mcc msc (et_lpV Pc) := by
  refine et_Cn.of 1 rfl rfl (by decide) mS_L_price.1 ?_
  refine et_aload_n (i := 0) d_L_price_0 rfl rfl ?_
  refine et_iload_n (i := 1) d_L_price_1 rfl rfl ?_
  refine et_iload_n (i := 2) d_L_price_2 rfl rfl ?_
  refine et_invVc mV_E_price (As := [_, _]) rfl d_L_price_3 lk_L_26 len_E_price h0 rfl (Nat.le_of_ble_eq_true rfl) hcn (Nat.le_refl _) (by omega) (by omega) (fun v h' n' hp => ?_) (fun x a h' n' hp => ?_)
  · rcases hI _ _ _ hp with e | e
    · cases e
      refine et_goto (tgt := 12) d_L_price_6 (by decide) ?_
      refine et_iconst (v := 0) d_L_price_12 (by decide) ?_
      exact et_iret d_L_price_13 rfl (by omega) (by omega) (Or.inl ⟨hp, rfl⟩)
    · cases e
  · rcases hI _ _ _ hp with e | e
    · cases e
    · cases e
      refine ⟨9, Or.inl ⟨rfl, 0, 6, 13, [], rfl, cl_L_13, ca_0, by decide, by decide, by decide⟩, ?_⟩
      refine et_astore_n (i := 3) (lv' := [_, _, _, _]) d_L_price_9 rfl (by decide) rfl rfl ?_
      refine et_iconst (v := 1) d_L_price_10 (by decide) ?_
      exact et_iret d_L_price_11 rfl (by omega) (by omega) (Or.inr ⟨0, hp, rfl⟩)
set_option maxHeartbeats 4000000 in
set_option maxRecDepth 100000 in
theorem c_L_rounds {sc : et_X} {h : Nat → et_MC} {dc n mcc msc : Nat} {fs : List Value} {Pc : et_R → (Nat → et_MC) → Nat → Prop} (x : Int32) (hcn : et_Cn sc Y_E_rounds dc [.ref 0, .int x] h n mcc msc Pc) (h0 : h 0 = .inr (6, fs)) (hI : et_lok Pc false) : et_Cn sc Y_L_rounds (dc + 1) [.ref 0, .int x, .ref 84] h n mcc msc (et_lp Pc) := by
  refine et_Cn.of 1 rfl rfl (by decide) mS_L_rounds.1 ?_
  refine et_aload_n (i := 2) d_L_rounds_0 rfl rfl ?_
  refine et_iconst (v := 0) d_L_rounds_1 (by decide) ?_
  refine et_aload_n (i := 0) d_L_rounds_2 rfl rfl ?_
  refine et_iload_n (i := 1) d_L_rounds_3 rfl rfl ?_
  refine et_invVc mV_E_rounds (As := [_]) rfl d_L_rounds_4 lk_L_30 len_E_rounds h0 rfl (Nat.le_of_ble_eq_true rfl) hcn (Nat.le_refl _) (by omega) (by omega) (fun v h' n' hp => ?_) (fun x a h' n' hp => ?_)
  · rcases hI _ _ _ hp with ⟨w, g, e, hg⟩ | e | ⟨_, e⟩
    · cases e
      refine et_i2l d_L_rounds_7 rfl ?_
      refine et_last d_L_rounds_8 hg (vp_in_nI (show 0 < 1 by decide) (by decide)) ?_
      refine et_goto (tgt := 15) d_L_rounds_9 (by decide) ?_
      refine et_iconst (v := 0) d_L_rounds_15 (by decide) ?_
      exact et_iret d_L_rounds_16 rfl (by omega) (by omega) (Or.inl ⟨w, h', hp, rfl, fun k e => by simp [va_up, e], _, by simp [va_up]; rfl, by simp [vp_updL]⟩)
    · cases e
    · cases e
  · rcases hI _ _ _ hp with ⟨w, g, e, _⟩ | e | ⟨e2, e⟩
    · cases e
    · cases e
      refine ⟨12, Or.inl ⟨rfl, 0, 9, 13, [], rfl, cl_L_13, ca_0, by decide, by decide, by decide⟩, ?_⟩
      refine et_astore_n (i := 3) (lv' := [_, _, _, _]) d_L_rounds_12 rfl (by decide) rfl rfl ?_
      refine et_iconst (v := 1) d_L_rounds_13 (by decide) ?_
      exact et_iret d_L_rounds_14 rfl (by omega) (by omega) (Or.inr ⟨0, hp, rfl⟩)
    · cases e2
set_option maxHeartbeats 4000000 in
set_option maxRecDepth 100000 in
theorem c_L_members {sc : et_X} {h : Nat → et_MC} {dc n mcc msc : Nat} {fs : List Value} {Pc : et_R → (Nat → et_MC) → Nat → Prop} (hcn : et_Cn sc Y_E_members dc [.ref 0] h n mcc msc Pc) (h0 : h 0 = .inr (6, fs)) (hI : et_lok Pc false) : et_Cn sc Y_L_members (dc + 1) [.ref 0, .ref 84] h n mcc msc (et_lp Pc) := by
  refine et_Cn.of 1 rfl rfl (by decide) mS_L_members.1 ?_
  refine et_aload_n (i := 1) d_L_members_0 rfl rfl ?_
  refine et_iconst (v := 0) d_L_members_1 (by decide) ?_
  refine et_aload_n (i := 0) d_L_members_2 rfl rfl ?_
  refine et_invVc mV_E_members (As := []) rfl d_L_members_3 lk_L_34 len_E_members h0 rfl (Nat.le_of_ble_eq_true rfl) hcn (Nat.le_refl _) (by omega) (by omega) (fun v h' n' hp => ?_) (fun x a h' n' hp => ?_)
  · rcases hI _ _ _ hp with ⟨w, g, e, hg⟩ | e | ⟨_, e⟩
    · cases e
      refine et_i2l d_L_members_6 rfl ?_
      refine et_last d_L_members_7 hg (vp_in_nI (show 0 < 1 by decide) (by decide)) ?_
      refine et_goto (tgt := 14) d_L_members_8 (by decide) ?_
      refine et_iconst (v := 0) d_L_members_14 (by decide) ?_
      exact et_iret d_L_members_15 rfl (by omega) (by omega) (Or.inl ⟨w, h', hp, rfl, fun k e => by simp [va_up, e], _, by simp [va_up]; rfl, by simp [vp_updL]⟩)
    · cases e
    · cases e
  · rcases hI _ _ _ hp with ⟨w, g, e, _⟩ | e | ⟨e2, e⟩
    · cases e
    · cases e
      refine ⟨11, Or.inl ⟨rfl, 0, 8, 13, [], rfl, cl_L_13, ca_0, by decide, by decide, by decide⟩, ?_⟩
      refine et_astore_n (i := 2) (lv' := [_, _, _]) d_L_members_11 rfl (by decide) rfl rfl ?_
      refine et_iconst (v := 1) d_L_members_12 (by decide) ?_
      exact et_iret d_L_members_13 rfl (by omega) (by omega) (Or.inr ⟨0, hp, rfl⟩)
    · cases e2
set_option maxHeartbeats 4000000 in
set_option maxRecDepth 100000 in
theorem c_L_cost {sc : et_X} {h : Nat → et_MC} {dc n mcc msc : Nat} {fs : List Value} {Pc : et_R → (Nat → et_MC) → Nat → Prop} (hcn : et_Cn sc Y_E_cost dc [.ref 0] h n mcc msc Pc) (h0 : h 0 = .inr (6, fs)) (hI : et_lokL Pc) : et_Cn sc Y_L_cost (dc + 1) [.ref 0, .ref 84] h n mcc msc (et_lpL Pc) := by
  refine et_Cn.of 1 rfl rfl (by decide) mS_L_cost.1 ?_
  refine et_aload_n (i := 1) d_L_cost_0 rfl rfl ?_
  refine et_iconst (v := 0) d_L_cost_1 (by decide) ?_
  refine et_aload_n (i := 0) d_L_cost_2 rfl rfl ?_
  refine et_invVc mV_E_cost (As := []) rfl d_L_cost_3 lk_L_37 len_E_cost h0 rfl (Nat.le_of_ble_eq_true rfl) hcn (Nat.le_refl _) (by omega) (by omega) (fun v h' n' hp => ?_) (fun x a h' n' hp => ?_)
  · rcases hI _ _ _ hp with ⟨w, g, e, hg⟩ | e
    · cases e
      refine et_last d_L_cost_6 hg (vp_in_nI (show 0 < 1 by decide) (by decide)) ?_
      refine et_goto (tgt := 13) d_L_cost_7 (by decide) ?_
      refine et_iconst (v := 0) d_L_cost_13 (by decide) ?_
      exact et_iret d_L_cost_14 rfl (by omega) (by omega) (Or.inl ⟨w, h', hp, rfl, fun k e => by simp [va_up, e], _, by simp [va_up]; rfl, by simp [vp_updL]⟩)
    · cases e
  · rcases hI _ _ _ hp with ⟨w, g, e, _⟩ | e
    · cases e
    · cases e
      refine ⟨10, Or.inl ⟨rfl, 0, 7, 13, [], rfl, cl_L_13, ca_0, by decide, by decide, by decide⟩, ?_⟩
      refine et_astore_n (i := 2) (lv' := [_, _, _]) d_L_cost_10 rfl (by decide) rfl rfl ?_
      refine et_iconst (v := 1) d_L_cost_11 (by decide) ?_
      exact et_iret d_L_cost_12 rfl (by omega) (by omega) (Or.inr ⟨0, hp, rfl⟩)
set_option maxHeartbeats 4000000 in
set_option maxRecDepth 100000 in
theorem c_L_best {sc : et_X} {h : Nat → et_MC} {dc n mcc msc : Nat} {fs : List Value} {Pc : et_R → (Nat → et_MC) → Nat → Prop} (hcn : et_Cn sc Y_E_best dc [.ref 0] h n mcc msc Pc) (h0 : h 0 = .inr (6, fs)) (hI : et_lok Pc false) : et_Cn sc Y_L_best (dc + 1) [.ref 0, .ref 84] h n mcc msc (et_lp Pc) := by
  refine et_Cn.of 1 rfl rfl (by decide) mS_L_best.1 ?_
  refine et_aload_n (i := 1) d_L_best_0 rfl rfl ?_
  refine et_iconst (v := 0) d_L_best_1 (by decide) ?_
  refine et_aload_n (i := 0) d_L_best_2 rfl rfl ?_
  refine et_invVc mV_E_best (As := []) rfl d_L_best_3 lk_L_41 len_E_best h0 rfl (Nat.le_of_ble_eq_true rfl) hcn (Nat.le_refl _) (by omega) (by omega) (fun v h' n' hp => ?_) (fun x a h' n' hp => ?_)
  · rcases hI _ _ _ hp with ⟨w, g, e, hg⟩ | e | ⟨_, e⟩
    · cases e
      refine et_i2l d_L_best_6 rfl ?_
      refine et_last d_L_best_7 hg (vp_in_nI (show 0 < 1 by decide) (by decide)) ?_
      refine et_goto (tgt := 14) d_L_best_8 (by decide) ?_
      refine et_iconst (v := 0) d_L_best_14 (by decide) ?_
      exact et_iret d_L_best_15 rfl (by omega) (by omega) (Or.inl ⟨w, h', hp, rfl, fun k e => by simp [va_up, e], _, by simp [va_up]; rfl, by simp [vp_updL]⟩)
    · cases e
    · cases e
  · rcases hI _ _ _ hp with ⟨w, g, e, _⟩ | e | ⟨e2, e⟩
    · cases e
    · cases e
      refine ⟨11, Or.inl ⟨rfl, 0, 8, 13, [], rfl, cl_L_13, ca_0, by decide, by decide, by decide⟩, ?_⟩
      refine et_astore_n (i := 2) (lv' := [_, _, _]) d_L_best_11 rfl (by decide) rfl rfl ?_
      refine et_iconst (v := 1) d_L_best_12 (by decide) ?_
      exact et_iret d_L_best_13 rfl (by omega) (by omega) (Or.inr ⟨0, hp, rfl⟩)
    · cases e2
end
section
/-! ===== the law: its instructions ===== -/
abbrev Y_Law : et_Y := (x, code, 8, some .boolean, [])
theorem d_Law_0 : decode code 0 = .ok (.new 8, 3) := by decide +kernel
theorem d_Law_3 : decode code 3 = .ok (.dup, 1) := by decide +kernel
theorem d_Law_4 : decode code 4 = .ok (.invokespecial 44, 3) := by decide +kernel
theorem d_Law_7 : decode code 7 = .ok (.astore_n 1, 1) := by decide +kernel
theorem d_Law_8 : decode code 8 = .ok (.new 45, 3) := by decide +kernel
theorem d_Law_11 : decode code 11 = .ok (.dup, 1) := by decide +kernel
theorem d_Law_12 : decode code 12 = .ok (.invokespecial 47, 3) := by decide +kernel
theorem d_Law_15 : decode code 15 = .ok (.astore_n 2, 1) := by decide +kernel
theorem d_Law_16 : decode code 16 = .ok (.iconst 1, 1) := by decide +kernel
theorem d_Law_17 : decode code 17 = .ok (.newarray .long, 2) := by decide +kernel
theorem d_Law_19 : decode code 19 = .ok (.astore_n 3, 1) := by decide +kernel
theorem d_Law_20 : decode code 20 = .ok (.iconst 0, 1) := by decide +kernel
theorem d_Law_21 : decode code 21 = .ok (.istore 4, 2) := by decide +kernel
theorem d_Law_23 : decode code 23 = .ok (.iload 4, 2) := by decide +kernel
theorem d_Law_25 : decode code 25 = .ok (.aload_n 0, 1) := by decide +kernel
theorem d_Law_26 : decode code 26 = .ok (.arraylength, 1) := by decide +kernel
theorem d_Law_27 : decode code 27 = .ok (.iconst 4, 1) := by decide +kernel
theorem d_Law_28 : decode code 28 = .ok (.isub, 1) := by decide +kernel
theorem d_Law_29 : decode code 29 = .ok (.if_icmp .gt 646, 3) := by decide +kernel
theorem d_Law_32 : decode code 32 = .ok (.aload_n 0, 1) := by decide +kernel
theorem d_Law_33 : decode code 33 = .ok (.iload 4, 2) := by decide +kernel
theorem d_Law_35 : decode code 35 = .ok (.iaload, 1) := by decide +kernel
theorem d_Law_36 : decode code 36 = .ok (.bipush 15, 2) := by decide +kernel
theorem d_Law_38 : decode code 38 = .ok (.iand, 1) := by decide +kernel
theorem d_Law_39 : decode code 39 = .ok (.tableswitch 630 0 14 #[73, 142, 155, 180, 193, 237, 281, 325, 369, 417, 473, 486, 499, 543, 586], 73) := by decide +kernel
theorem d_Law_112 : decode code 112 = .ok (.aload_n 1, 1) := by decide +kernel
theorem d_Law_113 : decode code 113 = .ok (.aload_n 0, 1) := by decide +kernel
theorem d_Law_114 : decode code 114 = .ok (.iload 4, 2) := by decide +kernel
theorem d_Law_116 : decode code 116 = .ok (.iconst 1, 1) := by decide +kernel
theorem d_Law_117 : decode code 117 = .ok (.iadd, 1) := by decide +kernel
theorem d_Law_118 : decode code 118 = .ok (.iaload, 1) := by decide +kernel
theorem d_Law_119 : decode code 119 = .ok (.i2l, 1) := by decide +kernel
theorem d_Law_120 : decode code 120 = .ok (.bipush 32, 2) := by decide +kernel
theorem d_Law_122 : decode code 122 = .ok (.lshl, 1) := by decide +kernel
theorem d_Law_123 : decode code 123 = .ok (.aload_n 0, 1) := by decide +kernel
theorem d_Law_124 : decode code 124 = .ok (.iload 4, 2) := by decide +kernel
theorem d_Law_126 : decode code 126 = .ok (.iconst 2, 1) := by decide +kernel
theorem d_Law_127 : decode code 127 = .ok (.iadd, 1) := by decide +kernel
theorem d_Law_128 : decode code 128 = .ok (.iaload, 1) := by decide +kernel
theorem d_Law_129 : decode code 129 = .ok (.i2l, 1) := by decide +kernel
theorem d_Law_130 : decode code 130 = .ok (.ldc2_w 48, 3) := by decide +kernel
theorem d_Law_133 : decode code 133 = .ok (.land, 1) := by decide +kernel
theorem d_Law_134 : decode code 134 = .ok (.lor, 1) := by decide +kernel
theorem d_Law_135 : decode code 135 = .ok (.aload_n 0, 1) := by decide +kernel
theorem d_Law_136 : decode code 136 = .ok (.iload 4, 2) := by decide +kernel
theorem d_Law_138 : decode code 138 = .ok (.iconst 3, 1) := by decide +kernel
theorem d_Law_139 : decode code 139 = .ok (.iadd, 1) := by decide +kernel
theorem d_Law_140 : decode code 140 = .ok (.iaload, 1) := by decide +kernel
theorem d_Law_141 : decode code 141 = .ok (.invokevirtual 50, 3) := by decide +kernel
theorem d_Law_144 : decode code 144 = .ok (.aload_n 2, 1) := by decide +kernel
theorem d_Law_145 : decode code 145 = .ok (.aload_n 0, 1) := by decide +kernel
theorem d_Law_146 : decode code 146 = .ok (.iload 4, 2) := by decide +kernel
theorem d_Law_148 : decode code 148 = .ok (.iconst 1, 1) := by decide +kernel
theorem d_Law_149 : decode code 149 = .ok (.iadd, 1) := by decide +kernel
theorem d_Law_150 : decode code 150 = .ok (.iaload, 1) := by decide +kernel
theorem d_Law_151 : decode code 151 = .ok (.i2l, 1) := by decide +kernel
theorem d_Law_152 : decode code 152 = .ok (.bipush 32, 2) := by decide +kernel
theorem d_Law_154 : decode code 154 = .ok (.lshl, 1) := by decide +kernel
theorem d_Law_155 : decode code 155 = .ok (.aload_n 0, 1) := by decide +kernel
theorem d_Law_156 : decode code 156 = .ok (.iload 4, 2) := by decide +kernel
theorem d_Law_158 : decode code 158 = .ok (.iconst 2, 1) := by decide +kernel
theorem d_Law_159 : decode code 159 = .ok (.iadd, 1) := by decide +kernel
theorem d_Law_160 : decode code 160 = .ok (.iaload, 1) := by decide +kernel
theorem d_Law_161 : decode code 161 = .ok (.i2l, 1) := by decide +kernel
theorem d_Law_162 : decode code 162 = .ok (.ldc2_w 48, 3) := by decide +kernel
theorem d_Law_165 : decode code 165 = .ok (.land, 1) := by decide +kernel
theorem d_Law_166 : decode code 166 = .ok (.lor, 1) := by decide +kernel
theorem d_Law_167 : decode code 167 = .ok (.aload_n 0, 1) := by decide +kernel
theorem d_Law_168 : decode code 168 = .ok (.iload 4, 2) := by decide +kernel
theorem d_Law_170 : decode code 170 = .ok (.iconst 3, 1) := by decide +kernel
theorem d_Law_171 : decode code 171 = .ok (.iadd, 1) := by decide +kernel
theorem d_Law_172 : decode code 172 = .ok (.iaload, 1) := by decide +kernel
theorem d_Law_173 : decode code 173 = .ok (.invokevirtual 54, 3) := by decide +kernel
theorem d_Law_176 : decode code 176 = .ok (.if_icmp .eq 493, 3) := by decide +kernel
theorem d_Law_179 : decode code 179 = .ok (.iconst 0, 1) := by decide +kernel
theorem d_Law_180 : decode code 180 = .ok (.ireturn, 1) := by decide +kernel
theorem d_Law_181 : decode code 181 = .ok (.aload_n 1, 1) := by decide +kernel
theorem d_Law_182 : decode code 182 = .ok (.invokevirtual 55, 3) := by decide +kernel
theorem d_Law_185 : decode code 185 = .ok (.aload_n 2, 1) := by decide +kernel
theorem d_Law_186 : decode code 186 = .ok (.invokevirtual 58, 3) := by decide +kernel
theorem d_Law_189 : decode code 189 = .ok (.if_icmp .eq 480, 3) := by decide +kernel
theorem d_Law_192 : decode code 192 = .ok (.iconst 0, 1) := by decide +kernel
theorem d_Law_193 : decode code 193 = .ok (.ireturn, 1) := by decide +kernel
theorem d_Law_194 : decode code 194 = .ok (.aload_n 1, 1) := by decide +kernel
theorem d_Law_195 : decode code 195 = .ok (.aload_n 0, 1) := by decide +kernel
theorem d_Law_196 : decode code 196 = .ok (.iload 4, 2) := by decide +kernel
theorem d_Law_198 : decode code 198 = .ok (.iconst 1, 1) := by decide +kernel
theorem d_Law_199 : decode code 199 = .ok (.iadd, 1) := by decide +kernel
theorem d_Law_200 : decode code 200 = .ok (.iaload, 1) := by decide +kernel
theorem d_Law_201 : decode code 201 = .ok (.invokevirtual 59, 3) := by decide +kernel
theorem d_Law_204 : decode code 204 = .ok (.aload_n 2, 1) := by decide +kernel
theorem d_Law_205 : decode code 205 = .ok (.aload_n 0, 1) := by decide +kernel
theorem d_Law_206 : decode code 206 = .ok (.iload 4, 2) := by decide +kernel
theorem d_Law_208 : decode code 208 = .ok (.iconst 1, 1) := by decide +kernel
theorem d_Law_209 : decode code 209 = .ok (.iadd, 1) := by decide +kernel
theorem d_Law_210 : decode code 210 = .ok (.iaload, 1) := by decide +kernel
theorem d_Law_211 : decode code 211 = .ok (.invokevirtual 62, 3) := by decide +kernel
theorem d_Law_214 : decode code 214 = .ok (.if_icmp .eq 455, 3) := by decide +kernel
theorem d_Law_217 : decode code 217 = .ok (.iconst 0, 1) := by decide +kernel
theorem d_Law_218 : decode code 218 = .ok (.ireturn, 1) := by decide +kernel
theorem d_Law_219 : decode code 219 = .ok (.aload_n 1, 1) := by decide +kernel
theorem d_Law_220 : decode code 220 = .ok (.invokevirtual 63, 3) := by decide +kernel
theorem d_Law_223 : decode code 223 = .ok (.aload_n 2, 1) := by decide +kernel
theorem d_Law_224 : decode code 224 = .ok (.invokevirtual 66, 3) := by decide +kernel
theorem d_Law_227 : decode code 227 = .ok (.if_icmp .eq 442, 3) := by decide +kernel
theorem d_Law_230 : decode code 230 = .ok (.iconst 0, 1) := by decide +kernel
theorem d_Law_231 : decode code 231 = .ok (.ireturn, 1) := by decide +kernel
theorem d_Law_232 : decode code 232 = .ok (.aload_n 1, 1) := by decide +kernel
theorem d_Law_233 : decode code 233 = .ok (.aload_n 3, 1) := by decide +kernel
theorem d_Law_234 : decode code 234 = .ok (.invokestatic 67, 3) := by decide +kernel
theorem d_Law_237 : decode code 237 = .ok (.istore 5, 2) := by decide +kernel
theorem d_Law_239 : decode code 239 = .ok (.aload_n 2, 1) := by decide +kernel
theorem d_Law_240 : decode code 240 = .ok (.invokevirtual 72, 3) := by decide +kernel
theorem d_Law_243 : decode code 243 = .ok (.istore 6, 2) := by decide +kernel
theorem d_Law_245 : decode code 245 = .ok (.aload_n 2, 1) := by decide +kernel
theorem d_Law_246 : decode code 246 = .ok (.invokevirtual 73, 3) := by decide +kernel
theorem d_Law_249 : decode code 249 = .ok (.iload 5, 2) := by decide +kernel
theorem d_Law_251 : decode code 251 = .ok (.if_icmp .eq 5, 3) := by decide +kernel
theorem d_Law_254 : decode code 254 = .ok (.iconst 0, 1) := by decide +kernel
theorem d_Law_255 : decode code 255 = .ok (.ireturn, 1) := by decide +kernel
theorem d_Law_256 : decode code 256 = .ok (.iload 5, 2) := by decide +kernel
theorem d_Law_258 : decode code 258 = .ok (.ifCond .ne 15, 3) := by decide +kernel
theorem d_Law_261 : decode code 261 = .ok (.aload_n 3, 1) := by decide +kernel
theorem d_Law_262 : decode code 262 = .ok (.iconst 0, 1) := by decide +kernel
theorem d_Law_263 : decode code 263 = .ok (.laload, 1) := by decide +kernel
theorem d_Law_264 : decode code 264 = .ok (.iload 6, 2) := by decide +kernel
theorem d_Law_266 : decode code 266 = .ok (.i2l, 1) := by decide +kernel
theorem d_Law_267 : decode code 267 = .ok (.lcmp, 1) := by decide +kernel
theorem d_Law_268 : decode code 268 = .ok (.ifCond .eq 5, 3) := by decide +kernel
theorem d_Law_271 : decode code 271 = .ok (.iconst 0, 1) := by decide +kernel
theorem d_Law_272 : decode code 272 = .ok (.ireturn, 1) := by decide +kernel
theorem d_Law_273 : decode code 273 = .ok (.goto 396, 3) := by decide +kernel
theorem d_Law_276 : decode code 276 = .ok (.aload_n 1, 1) := by decide +kernel
theorem d_Law_277 : decode code 277 = .ok (.aload_n 3, 1) := by decide +kernel
theorem d_Law_278 : decode code 278 = .ok (.invokestatic 76, 3) := by decide +kernel
theorem d_Law_281 : decode code 281 = .ok (.istore 5, 2) := by decide +kernel
theorem d_Law_283 : decode code 283 = .ok (.aload_n 2, 1) := by decide +kernel
theorem d_Law_284 : decode code 284 = .ok (.invokevirtual 78, 3) := by decide +kernel
theorem d_Law_287 : decode code 287 = .ok (.istore 6, 2) := by decide +kernel
theorem d_Law_289 : decode code 289 = .ok (.aload_n 2, 1) := by decide +kernel
theorem d_Law_290 : decode code 290 = .ok (.invokevirtual 73, 3) := by decide +kernel
theorem d_Law_293 : decode code 293 = .ok (.iload 5, 2) := by decide +kernel
theorem d_Law_295 : decode code 295 = .ok (.if_icmp .eq 5, 3) := by decide +kernel
theorem d_Law_298 : decode code 298 = .ok (.iconst 0, 1) := by decide +kernel
theorem d_Law_299 : decode code 299 = .ok (.ireturn, 1) := by decide +kernel
theorem d_Law_300 : decode code 300 = .ok (.iload 5, 2) := by decide +kernel
theorem d_Law_302 : decode code 302 = .ok (.ifCond .ne 15, 3) := by decide +kernel
theorem d_Law_305 : decode code 305 = .ok (.aload_n 3, 1) := by decide +kernel
theorem d_Law_306 : decode code 306 = .ok (.iconst 0, 1) := by decide +kernel
theorem d_Law_307 : decode code 307 = .ok (.laload, 1) := by decide +kernel
theorem d_Law_308 : decode code 308 = .ok (.iload 6, 2) := by decide +kernel
theorem d_Law_310 : decode code 310 = .ok (.i2l, 1) := by decide +kernel
theorem d_Law_311 : decode code 311 = .ok (.lcmp, 1) := by decide +kernel
theorem d_Law_312 : decode code 312 = .ok (.ifCond .eq 5, 3) := by decide +kernel
theorem d_Law_315 : decode code 315 = .ok (.iconst 0, 1) := by decide +kernel
theorem d_Law_316 : decode code 316 = .ok (.ireturn, 1) := by decide +kernel
theorem d_Law_317 : decode code 317 = .ok (.goto 352, 3) := by decide +kernel
theorem d_Law_320 : decode code 320 = .ok (.aload_n 1, 1) := by decide +kernel
theorem d_Law_321 : decode code 321 = .ok (.aload_n 3, 1) := by decide +kernel
theorem d_Law_322 : decode code 322 = .ok (.invokestatic 79, 3) := by decide +kernel
theorem d_Law_325 : decode code 325 = .ok (.istore 5, 2) := by decide +kernel
theorem d_Law_327 : decode code 327 = .ok (.aload_n 2, 1) := by decide +kernel
theorem d_Law_328 : decode code 328 = .ok (.invokevirtual 81, 3) := by decide +kernel
theorem d_Law_331 : decode code 331 = .ok (.istore 6, 2) := by decide +kernel
theorem d_Law_333 : decode code 333 = .ok (.aload_n 2, 1) := by decide +kernel
theorem d_Law_334 : decode code 334 = .ok (.invokevirtual 73, 3) := by decide +kernel
theorem d_Law_337 : decode code 337 = .ok (.iload 5, 2) := by decide +kernel
theorem d_Law_339 : decode code 339 = .ok (.if_icmp .eq 5, 3) := by decide +kernel
theorem d_Law_342 : decode code 342 = .ok (.iconst 0, 1) := by decide +kernel
theorem d_Law_343 : decode code 343 = .ok (.ireturn, 1) := by decide +kernel
theorem d_Law_344 : decode code 344 = .ok (.iload 5, 2) := by decide +kernel
theorem d_Law_346 : decode code 346 = .ok (.ifCond .ne 15, 3) := by decide +kernel
theorem d_Law_349 : decode code 349 = .ok (.aload_n 3, 1) := by decide +kernel
theorem d_Law_350 : decode code 350 = .ok (.iconst 0, 1) := by decide +kernel
theorem d_Law_351 : decode code 351 = .ok (.laload, 1) := by decide +kernel
theorem d_Law_352 : decode code 352 = .ok (.iload 6, 2) := by decide +kernel
theorem d_Law_354 : decode code 354 = .ok (.i2l, 1) := by decide +kernel
theorem d_Law_355 : decode code 355 = .ok (.lcmp, 1) := by decide +kernel
theorem d_Law_356 : decode code 356 = .ok (.ifCond .eq 5, 3) := by decide +kernel
theorem d_Law_359 : decode code 359 = .ok (.iconst 0, 1) := by decide +kernel
theorem d_Law_360 : decode code 360 = .ok (.ireturn, 1) := by decide +kernel
theorem d_Law_361 : decode code 361 = .ok (.goto 308, 3) := by decide +kernel
theorem d_Law_364 : decode code 364 = .ok (.aload_n 1, 1) := by decide +kernel
theorem d_Law_365 : decode code 365 = .ok (.aload_n 3, 1) := by decide +kernel
theorem d_Law_366 : decode code 366 = .ok (.invokestatic 82, 3) := by decide +kernel
theorem d_Law_369 : decode code 369 = .ok (.istore 5, 2) := by decide +kernel
theorem d_Law_371 : decode code 371 = .ok (.aload_n 2, 1) := by decide +kernel
theorem d_Law_372 : decode code 372 = .ok (.invokevirtual 84, 3) := by decide +kernel
theorem d_Law_375 : decode code 375 = .ok (.istore 6, 2) := by decide +kernel
theorem d_Law_377 : decode code 377 = .ok (.aload_n 2, 1) := by decide +kernel
theorem d_Law_378 : decode code 378 = .ok (.invokevirtual 73, 3) := by decide +kernel
theorem d_Law_381 : decode code 381 = .ok (.iload 5, 2) := by decide +kernel
theorem d_Law_383 : decode code 383 = .ok (.if_icmp .eq 5, 3) := by decide +kernel
theorem d_Law_386 : decode code 386 = .ok (.iconst 0, 1) := by decide +kernel
theorem d_Law_387 : decode code 387 = .ok (.ireturn, 1) := by decide +kernel
theorem d_Law_388 : decode code 388 = .ok (.iload 5, 2) := by decide +kernel
theorem d_Law_390 : decode code 390 = .ok (.ifCond .ne 15, 3) := by decide +kernel
theorem d_Law_393 : decode code 393 = .ok (.aload_n 3, 1) := by decide +kernel
theorem d_Law_394 : decode code 394 = .ok (.iconst 0, 1) := by decide +kernel
theorem d_Law_395 : decode code 395 = .ok (.laload, 1) := by decide +kernel
theorem d_Law_396 : decode code 396 = .ok (.iload 6, 2) := by decide +kernel
theorem d_Law_398 : decode code 398 = .ok (.i2l, 1) := by decide +kernel
theorem d_Law_399 : decode code 399 = .ok (.lcmp, 1) := by decide +kernel
theorem d_Law_400 : decode code 400 = .ok (.ifCond .eq 5, 3) := by decide +kernel
theorem d_Law_403 : decode code 403 = .ok (.iconst 0, 1) := by decide +kernel
theorem d_Law_404 : decode code 404 = .ok (.ireturn, 1) := by decide +kernel
theorem d_Law_405 : decode code 405 = .ok (.goto 264, 3) := by decide +kernel
theorem d_Law_408 : decode code 408 = .ok (.aload_n 1, 1) := by decide +kernel
theorem d_Law_409 : decode code 409 = .ok (.aload_n 0, 1) := by decide +kernel
theorem d_Law_410 : decode code 410 = .ok (.iload 4, 2) := by decide +kernel
theorem d_Law_412 : decode code 412 = .ok (.iconst 1, 1) := by decide +kernel
theorem d_Law_413 : decode code 413 = .ok (.iadd, 1) := by decide +kernel
theorem d_Law_414 : decode code 414 = .ok (.iaload, 1) := by decide +kernel
theorem d_Law_415 : decode code 415 = .ok (.aload_n 0, 1) := by decide +kernel
theorem d_Law_416 : decode code 416 = .ok (.iload 4, 2) := by decide +kernel
theorem d_Law_418 : decode code 418 = .ok (.iconst 2, 1) := by decide +kernel
theorem d_Law_419 : decode code 419 = .ok (.iadd, 1) := by decide +kernel
theorem d_Law_420 : decode code 420 = .ok (.iaload, 1) := by decide +kernel
theorem d_Law_421 : decode code 421 = .ok (.invokestatic 85, 3) := by decide +kernel
theorem d_Law_424 : decode code 424 = .ok (.istore 5, 2) := by decide +kernel
theorem d_Law_426 : decode code 426 = .ok (.aload_n 2, 1) := by decide +kernel
theorem d_Law_427 : decode code 427 = .ok (.aload_n 0, 1) := by decide +kernel
theorem d_Law_428 : decode code 428 = .ok (.iload 4, 2) := by decide +kernel
theorem d_Law_430 : decode code 430 = .ok (.iconst 1, 1) := by decide +kernel
theorem d_Law_431 : decode code 431 = .ok (.iadd, 1) := by decide +kernel
theorem d_Law_432 : decode code 432 = .ok (.iaload, 1) := by decide +kernel
theorem d_Law_433 : decode code 433 = .ok (.aload_n 0, 1) := by decide +kernel
theorem d_Law_434 : decode code 434 = .ok (.iload 4, 2) := by decide +kernel
theorem d_Law_436 : decode code 436 = .ok (.iconst 2, 1) := by decide +kernel
theorem d_Law_437 : decode code 437 = .ok (.iadd, 1) := by decide +kernel
theorem d_Law_438 : decode code 438 = .ok (.iaload, 1) := by decide +kernel
theorem d_Law_439 : decode code 439 = .ok (.invokevirtual 88, 3) := by decide +kernel
theorem d_Law_442 : decode code 442 = .ok (.aload_n 2, 1) := by decide +kernel
theorem d_Law_443 : decode code 443 = .ok (.invokevirtual 73, 3) := by decide +kernel
theorem d_Law_446 : decode code 446 = .ok (.iload 5, 2) := by decide +kernel
theorem d_Law_448 : decode code 448 = .ok (.if_icmp .eq 5, 3) := by decide +kernel
theorem d_Law_451 : decode code 451 = .ok (.iconst 0, 1) := by decide +kernel
theorem d_Law_452 : decode code 452 = .ok (.ireturn, 1) := by decide +kernel
theorem d_Law_453 : decode code 453 = .ok (.goto 216, 3) := by decide +kernel
theorem d_Law_456 : decode code 456 = .ok (.aload_n 1, 1) := by decide +kernel
theorem d_Law_457 : decode code 457 = .ok (.aload_n 0, 1) := by decide +kernel
theorem d_Law_458 : decode code 458 = .ok (.iload 4, 2) := by decide +kernel
theorem d_Law_460 : decode code 460 = .ok (.iconst 1, 1) := by decide +kernel
theorem d_Law_461 : decode code 461 = .ok (.iadd, 1) := by decide +kernel
theorem d_Law_462 : decode code 462 = .ok (.iaload, 1) := by decide +kernel
theorem d_Law_463 : decode code 463 = .ok (.aload_n 3, 1) := by decide +kernel
theorem d_Law_464 : decode code 464 = .ok (.invokestatic 89, 3) := by decide +kernel
theorem d_Law_467 : decode code 467 = .ok (.istore 5, 2) := by decide +kernel
theorem d_Law_469 : decode code 469 = .ok (.aload_n 2, 1) := by decide +kernel
theorem d_Law_470 : decode code 470 = .ok (.aload_n 0, 1) := by decide +kernel
theorem d_Law_471 : decode code 471 = .ok (.iload 4, 2) := by decide +kernel
theorem d_Law_473 : decode code 473 = .ok (.iconst 1, 1) := by decide +kernel
theorem d_Law_474 : decode code 474 = .ok (.iadd, 1) := by decide +kernel
theorem d_Law_475 : decode code 475 = .ok (.iaload, 1) := by decide +kernel
theorem d_Law_476 : decode code 476 = .ok (.invokevirtual 92, 3) := by decide +kernel
theorem d_Law_479 : decode code 479 = .ok (.istore 6, 2) := by decide +kernel
theorem d_Law_481 : decode code 481 = .ok (.aload_n 2, 1) := by decide +kernel
theorem d_Law_482 : decode code 482 = .ok (.invokevirtual 73, 3) := by decide +kernel
theorem d_Law_485 : decode code 485 = .ok (.iload 5, 2) := by decide +kernel
theorem d_Law_487 : decode code 487 = .ok (.if_icmp .eq 5, 3) := by decide +kernel
theorem d_Law_490 : decode code 490 = .ok (.iconst 0, 1) := by decide +kernel
theorem d_Law_491 : decode code 491 = .ok (.ireturn, 1) := by decide +kernel
theorem d_Law_492 : decode code 492 = .ok (.iload 5, 2) := by decide +kernel
theorem d_Law_494 : decode code 494 = .ok (.ifCond .ne 15, 3) := by decide +kernel
theorem d_Law_497 : decode code 497 = .ok (.aload_n 3, 1) := by decide +kernel
theorem d_Law_498 : decode code 498 = .ok (.iconst 0, 1) := by decide +kernel
theorem d_Law_499 : decode code 499 = .ok (.laload, 1) := by decide +kernel
theorem d_Law_500 : decode code 500 = .ok (.iload 6, 2) := by decide +kernel
theorem d_Law_502 : decode code 502 = .ok (.i2l, 1) := by decide +kernel
theorem d_Law_503 : decode code 503 = .ok (.lcmp, 1) := by decide +kernel
theorem d_Law_504 : decode code 504 = .ok (.ifCond .eq 5, 3) := by decide +kernel
theorem d_Law_507 : decode code 507 = .ok (.iconst 0, 1) := by decide +kernel
theorem d_Law_508 : decode code 508 = .ok (.ireturn, 1) := by decide +kernel
theorem d_Law_509 : decode code 509 = .ok (.goto 160, 3) := by decide +kernel
theorem d_Law_512 : decode code 512 = .ok (.aload_n 1, 1) := by decide +kernel
theorem d_Law_513 : decode code 513 = .ok (.invokevirtual 93, 3) := by decide +kernel
theorem d_Law_516 : decode code 516 = .ok (.aload_n 2, 1) := by decide +kernel
theorem d_Law_517 : decode code 517 = .ok (.invokevirtual 96, 3) := by decide +kernel
theorem d_Law_520 : decode code 520 = .ok (.if_icmp .eq 149, 3) := by decide +kernel
theorem d_Law_523 : decode code 523 = .ok (.iconst 0, 1) := by decide +kernel
theorem d_Law_524 : decode code 524 = .ok (.ireturn, 1) := by decide +kernel
theorem d_Law_525 : decode code 525 = .ok (.aload_n 1, 1) := by decide +kernel
theorem d_Law_526 : decode code 526 = .ok (.invokevirtual 97, 3) := by decide +kernel
theorem d_Law_529 : decode code 529 = .ok (.aload_n 2, 1) := by decide +kernel
theorem d_Law_530 : decode code 530 = .ok (.invokevirtual 100, 3) := by decide +kernel
theorem d_Law_533 : decode code 533 = .ok (.if_icmp .eq 136, 3) := by decide +kernel
theorem d_Law_536 : decode code 536 = .ok (.iconst 0, 1) := by decide +kernel
theorem d_Law_537 : decode code 537 = .ok (.ireturn, 1) := by decide +kernel
theorem d_Law_538 : decode code 538 = .ok (.aload_n 1, 1) := by decide +kernel
theorem d_Law_539 : decode code 539 = .ok (.aload_n 3, 1) := by decide +kernel
theorem d_Law_540 : decode code 540 = .ok (.invokestatic 101, 3) := by decide +kernel
theorem d_Law_543 : decode code 543 = .ok (.istore 5, 2) := by decide +kernel
theorem d_Law_545 : decode code 545 = .ok (.aload_n 2, 1) := by decide +kernel
theorem d_Law_546 : decode code 546 = .ok (.invokevirtual 103, 3) := by decide +kernel
theorem d_Law_549 : decode code 549 = .ok (.istore 6, 2) := by decide +kernel
theorem d_Law_551 : decode code 551 = .ok (.aload_n 2, 1) := by decide +kernel
theorem d_Law_552 : decode code 552 = .ok (.invokevirtual 73, 3) := by decide +kernel
theorem d_Law_555 : decode code 555 = .ok (.iload 5, 2) := by decide +kernel
theorem d_Law_557 : decode code 557 = .ok (.if_icmp .eq 5, 3) := by decide +kernel
theorem d_Law_560 : decode code 560 = .ok (.iconst 0, 1) := by decide +kernel
theorem d_Law_561 : decode code 561 = .ok (.ireturn, 1) := by decide +kernel
theorem d_Law_562 : decode code 562 = .ok (.iload 5, 2) := by decide +kernel
theorem d_Law_564 : decode code 564 = .ok (.ifCond .ne 15, 3) := by decide +kernel
theorem d_Law_567 : decode code 567 = .ok (.aload_n 3, 1) := by decide +kernel
theorem d_Law_568 : decode code 568 = .ok (.iconst 0, 1) := by decide +kernel
theorem d_Law_569 : decode code 569 = .ok (.laload, 1) := by decide +kernel
theorem d_Law_570 : decode code 570 = .ok (.iload 6, 2) := by decide +kernel
theorem d_Law_572 : decode code 572 = .ok (.i2l, 1) := by decide +kernel
theorem d_Law_573 : decode code 573 = .ok (.lcmp, 1) := by decide +kernel
theorem d_Law_574 : decode code 574 = .ok (.ifCond .eq 5, 3) := by decide +kernel
theorem d_Law_577 : decode code 577 = .ok (.iconst 0, 1) := by decide +kernel
theorem d_Law_578 : decode code 578 = .ok (.ireturn, 1) := by decide +kernel
theorem d_Law_579 : decode code 579 = .ok (.goto 90, 3) := by decide +kernel
theorem d_Law_582 : decode code 582 = .ok (.aload_n 1, 1) := by decide +kernel
theorem d_Law_583 : decode code 583 = .ok (.aload_n 3, 1) := by decide +kernel
theorem d_Law_584 : decode code 584 = .ok (.invokestatic 104, 3) := by decide +kernel
theorem d_Law_587 : decode code 587 = .ok (.istore 5, 2) := by decide +kernel
theorem d_Law_589 : decode code 589 = .ok (.aload_n 2, 1) := by decide +kernel
theorem d_Law_590 : decode code 590 = .ok (.invokevirtual 106, 3) := by decide +kernel
theorem d_Law_593 : decode code 593 = .ok (.lstore 6, 2) := by decide +kernel
theorem d_Law_595 : decode code 595 = .ok (.aload_n 2, 1) := by decide +kernel
theorem d_Law_596 : decode code 596 = .ok (.invokevirtual 73, 3) := by decide +kernel
theorem d_Law_599 : decode code 599 = .ok (.iload 5, 2) := by decide +kernel
theorem d_Law_601 : decode code 601 = .ok (.if_icmp .eq 5, 3) := by decide +kernel
theorem d_Law_604 : decode code 604 = .ok (.iconst 0, 1) := by decide +kernel
theorem d_Law_605 : decode code 605 = .ok (.ireturn, 1) := by decide +kernel
theorem d_Law_606 : decode code 606 = .ok (.iload 5, 2) := by decide +kernel
theorem d_Law_608 : decode code 608 = .ok (.ifCond .ne 14, 3) := by decide +kernel
theorem d_Law_611 : decode code 611 = .ok (.aload_n 3, 1) := by decide +kernel
theorem d_Law_612 : decode code 612 = .ok (.iconst 0, 1) := by decide +kernel
theorem d_Law_613 : decode code 613 = .ok (.laload, 1) := by decide +kernel
theorem d_Law_614 : decode code 614 = .ok (.lload 6, 2) := by decide +kernel
theorem d_Law_616 : decode code 616 = .ok (.lcmp, 1) := by decide +kernel
theorem d_Law_617 : decode code 617 = .ok (.ifCond .eq 5, 3) := by decide +kernel
theorem d_Law_620 : decode code 620 = .ok (.iconst 0, 1) := by decide +kernel
theorem d_Law_621 : decode code 621 = .ok (.ireturn, 1) := by decide +kernel
theorem d_Law_622 : decode code 622 = .ok (.goto 47, 3) := by decide +kernel
theorem d_Law_625 : decode code 625 = .ok (.aload_n 1, 1) := by decide +kernel
theorem d_Law_626 : decode code 626 = .ok (.aload_n 3, 1) := by decide +kernel
theorem d_Law_627 : decode code 627 = .ok (.invokestatic 107, 3) := by decide +kernel
theorem d_Law_630 : decode code 630 = .ok (.istore 5, 2) := by decide +kernel
theorem d_Law_632 : decode code 632 = .ok (.aload_n 2, 1) := by decide +kernel
theorem d_Law_633 : decode code 633 = .ok (.invokevirtual 109, 3) := by decide +kernel
theorem d_Law_636 : decode code 636 = .ok (.istore 6, 2) := by decide +kernel
theorem d_Law_638 : decode code 638 = .ok (.aload_n 2, 1) := by decide +kernel
theorem d_Law_639 : decode code 639 = .ok (.invokevirtual 73, 3) := by decide +kernel
theorem d_Law_642 : decode code 642 = .ok (.iload 5, 2) := by decide +kernel
theorem d_Law_644 : decode code 644 = .ok (.if_icmp .eq 5, 3) := by decide +kernel
theorem d_Law_647 : decode code 647 = .ok (.iconst 0, 1) := by decide +kernel
theorem d_Law_648 : decode code 648 = .ok (.ireturn, 1) := by decide +kernel
theorem d_Law_649 : decode code 649 = .ok (.iload 5, 2) := by decide +kernel
theorem d_Law_651 : decode code 651 = .ok (.ifCond .ne 15, 3) := by decide +kernel
theorem d_Law_654 : decode code 654 = .ok (.aload_n 3, 1) := by decide +kernel
theorem d_Law_655 : decode code 655 = .ok (.iconst 0, 1) := by decide +kernel
theorem d_Law_656 : decode code 656 = .ok (.laload, 1) := by decide +kernel
theorem d_Law_657 : decode code 657 = .ok (.iload 6, 2) := by decide +kernel
theorem d_Law_659 : decode code 659 = .ok (.i2l, 1) := by decide +kernel
theorem d_Law_660 : decode code 660 = .ok (.lcmp, 1) := by decide +kernel
theorem d_Law_661 : decode code 661 = .ok (.ifCond .eq 5, 3) := by decide +kernel
theorem d_Law_664 : decode code 664 = .ok (.iconst 0, 1) := by decide +kernel
theorem d_Law_665 : decode code 665 = .ok (.ireturn, 1) := by decide +kernel
theorem d_Law_666 : decode code 666 = .ok (.goto 3, 3) := by decide +kernel
theorem d_Law_669 : decode code 669 = .ok (.iinc 4 4, 3) := by decide +kernel
theorem d_Law_672 : decode code 672 = .ok (.goto (-649), 3) := by decide +kernel
theorem d_Law_675 : decode code 675 = .ok (.iconst 1, 1) := by decide +kernel
theorem d_Law_676 : decode code 676 = .ok (.ireturn, 1) := by decide +kernel
end
section
/-! ===== the law: one call of the script ===== -/
def et_one : et_R → (Nat → et_MC) → Nat → Prop := fun r _ _ => r = .inl (some (.int 1))
theorem et_weak {sc : et_X} {Y : et_Y} {d mc ms : Nat} {Post : et_R → (Nat → et_MC) → Nat → Prop} {pc : Nat} {lv lv' : List (Option Value)} {st : List Value} {h : Nat → et_MC} {n nc ns : Nat} (hs : ∀ (j : Nat) (v : Value), lv'[j]? = some (some v) → lv[j]? = some (some v)) (k : et_M sc Y d mc ms Post pc lv' st h n nc ns) : et_M sc Y d mc ms Post pc lv st h n nc ns := by
  intro p l e R s m args below meth c B D dA ls H locs C hP hF hL hl
  refine k p l e R s m args below meth c B D dA ls H locs C hP hF hL (et_sub hl fun q hq => ?_)
  obtain ⟨j, v, h1, h2⟩ := (et_ll_mem _ _ _).mp hq
  exact (et_ll_mem _ _ _).mpr ⟨j, v, hs j v h1, h2⟩
theorem et_w8 {a b c d e o5 o6 o7 : Option Value} : ∀ (j : Nat) (v : Value), ([a, b, c, d, e, none, none, none] : List (Option Value))[j]? = some (some v) → ([a, b, c, d, e, o5, o6, o7] : List (Option Value))[j]? = some (some v)
  | 0, _, h => h
  | 1, _, h => h
  | 2, _, h => h
  | 3, _, h => h
  | 4, _, h => h
  | 5, _, h => by simp at h
  | 6, _, h => by simp at h
  | 7, _, h => by simp at h
  | j + 8, _, h => by simp at h
theorem et_and15 (x : Int32) : ∃ m : Nat, m < 16 ∧ x &&& 15 = nI m := by
  refine ⟨x.toBitVec.toNat % 16, Nat.mod_lt _ (by decide), ?_⟩
  apply Int32.toBitVec_inj.mp
  apply BitVec.eq_of_toNat_eq
  show (x.toBitVec &&& 15#32).toNat = (BitVec.ofNat 32 (x.toBitVec.toNat % 16)).toNat
  rw [BitVec.toNat_and]
  simp only [BitVec.toNat_ofNat]
  have h1 : x.toBitVec.toNat &&& 15 = x.toBitVec.toNat % 16 := Nat.and_two_pow_sub_one_eq_mod x.toBitVec.toNat 4
  have h2 : 15 % 2 ^ 32 = 15 := rfl
  rw [h2, h1]
  omega
theorem et_cell {sc : et_X} {mc ms : Nat} {pc : Nat} {st : List Value} {h : Nat → et_MC} {n nc ns : Nat} {z : Int} (i k : Nat) {o5 o6 o7 : Option Value} (d1 : decode code pc = .ok (.aload_n 0, 1)) (d2 : decode code (pc + 1) = .ok (.iload 4, 2)) (d3 : decode code (pc + 1 + 2) = .ok (.iconst z, 1)) (d4 : decode code (pc + 1 + 2 + 1) = .ok (.iadd, 1)) (d5 : decode code (pc + 1 + 2 + 1 + 1) = .ok (.iaload, 1)) (hz : Int32.ofInt z = nI k) (hi : i + k < sc.2.1) (hL : sc.2.1 ≤ 2048)
    (K : et_M sc Y_Law 900 mc ms et_one (pc + 1 + 2 + 1 + 1 + 1) [some (.retAddr sc.1), some (.ref 0), some (.ref 64), some (.ref 84), some (.int (nI i)), o5, o6, o7] (.int (sc.2.2 (i + k)) :: st) h n nc ns) : et_M sc Y_Law 900 mc ms et_one pc [some (.retAddr sc.1), some (.ref 0), some (.ref 64), some (.ref 84), some (.int (nI i)), o5, o6, o7] st h n nc ns := by
  refine et_sload (i := 0) d1 rfl rfl ?_
  refine et_iload d2 rfl ?_
  refine et_iconst d3 hz ?_
  refine et_iadd d4 ?_
  rw [nI_add]
  refine et_sld d5 (vp_in_nI hi (by omega)) ?_
  rw [nI_clamp (by omega)]
  exact K
def et_cA (sc : et_X) (Yx Yy : et_Y) (as : List Value) (h : Nat → et_MC) (n : Nat) (Nx : (Nat → et_MC) → Nat → Prop) : Prop :=
  ∃ (mcc msc : Nat) (Px : et_R → (Nat → et_MC) → Nat → Prop), mcc ≤ 1000 ∧ msc ≤ 10000 ∧ (∃ fs, h 0 = .inr (6, fs)) ∧ et_Cn sc Yx 899 (.ref 0 :: as) h n mcc msc Px ∧ ∀ r h1 n1, Px r h1 n1 → ∃ w : Int32, r = .inl (some (.int w)) ∧ (∃ fs, h1 64 = .inr (7, fs)) ∧
    ∃ Py : et_R → (Nat → et_MC) → Nat → Prop, et_Cn sc Yy 899 (.ref 64 :: as) h1 n1 0 0 Py ∧ ∀ r2 h2 n2, Py r2 h2 n2 → r2 = .inl (some (.int w)) ∧ Nx h2 n2
def et_cB (sc : et_X) (Yx : et_Y) (ax : List Value) (Yy : et_Y) (as : List Value) (h : Nat → et_MC) (n : Nat) (An : Option Value → Int32 → (Nat → et_MC) → Prop) (Nx : (Nat → et_MC) → Nat → Prop) : Prop :=
  ∃ (mcc msc : Nat) (Px : et_R → (Nat → et_MC) → Nat → Prop), mcc ≤ 1000 ∧ msc ≤ 10000 ∧ et_Cn sc Yx 899 ax h n mcc msc Px ∧ ∀ r h1 n1, Px r h1 n1 → ∃ k : Int32, r = .inl (some (.int k)) ∧ (∃ fs, h1 64 = .inr (7, fs)) ∧
    ∃ Py : et_R → (Nat → et_MC) → Nat → Prop, et_Cn sc Yy 899 (.ref 64 :: as) h1 n1 0 0 Py ∧ ∀ r2 h2 n2, Py r2 h2 n2 → ∃ v, r2 = .inl v ∧ (∃ fs, h2 64 = .inr (7, .int k :: fs)) ∧ An v k h2 ∧ Nx h2 n2
/-- what the answers must be: an int, a long, nothing -/
def et_anI (v : Option Value) (k : Int32) (h : Nat → et_MC) : Prop := ∃ b : Int32, v = some (.int b) ∧ (k = 0 → ∃ g : Nat → Int64, h 84 = .inl (1, 1, .inr (.inl g)) ∧ g 0 = b.toInt64)
def et_anL (v : Option Value) (k : Int32) (h : Nat → et_MC) : Prop := ∃ b : Int64, v = some (.long b) ∧ (k = 0 → ∃ g : Nat → Int64, h 84 = .inl (1, 1, .inr (.inl g)) ∧ g 0 = b)
def et_anV (v : Option Value) (_ : Int32) (_ : Nat → et_MC) : Prop := v = none
def et_arg (a1 a2 : Int32) : Int64 := (a1.toInt64 <<< ((32 : Int32).toInt64 &&& 63)) ||| (a2.toInt64 &&& 4294967295)
def et_op (sc : et_X) (k : Nat) (a1 a2 a3 : Int32) (h : Nat → et_MC) (n : Nat) (Nx : (Nat → et_MC) → Nat → Prop) : Prop := match k with
  | 0 => et_cA sc Y_E_type Y_M_type [.long (et_arg a1 a2), .int a3] h n Nx
  | 1 => et_cA sc Y_E_wipe Y_M_wipe [] h n Nx
  | 2 => et_cA sc Y_E_character Y_M_character [.int a1] h n Nx
  | 3 => et_cA sc Y_E_place Y_M_place [] h n Nx
  | 4 => et_cB sc Y_L_rule [.ref 0, .ref 84] Y_M_rule [] h n et_anI Nx
  | 5 => et_cB sc Y_L_add [.ref 0, .ref 84] Y_M_add [] h n et_anI Nx
  | 6 => et_cB sc Y_L_unite [.ref 0, .ref 84] Y_M_unite [] h n et_anI Nx
  | 7 => et_cB sc Y_L_same [.ref 0, .ref 84] Y_M_same [] h n et_anI Nx
  | 8 => et_cB sc Y_L_price [.ref 0, .int a1, .int a2] Y_M_price [.int a1, .int a2] h n et_anV Nx
  | 9 => et_cB sc Y_L_rounds [.ref 0, .int a1, .ref 84] Y_M_rounds [.int a1] h n et_anI Nx
  | 10 => et_cA sc Y_E_nodes Y_M_nodes [] h n Nx
  | 11 => et_cA sc Y_E_classes Y_M_classes [] h n Nx
  | 12 => et_cB sc Y_L_members [.ref 0, .ref 84] Y_M_members [] h n et_anI Nx
  | 13 => et_cB sc Y_L_cost [.ref 0, .ref 84] Y_M_cost [] h n et_anL Nx
  | 14 => et_cB sc Y_L_best [.ref 0, .ref 84] Y_M_best [] h n et_anI Nx
  | _ => Nx h n
theorem et_cmp0 {x y : Int64} (e : x = y) : lg_cmp x y = 0 := by
  subst e
  simp [lg_cmp]
set_option maxHeartbeats 4000000 in
set_option maxRecDepth 100000 in
theorem law_type {sc : et_X} {mc ms : Nat} {h : Nat → et_MC} {n nc ns i : Nat} {Nx : (Nat → et_MC) → Nat → Prop} (hi : i + 4 ≤ sc.2.1) (hL : sc.2.1 ≤ 2048) (hmc : nc + 1000 ≤ mc) (hms : ns + 10000 ≤ ms) (hk : et_op sc 0 (sc.2.2 (i + 1)) (sc.2.2 (i + 2)) (sc.2.2 (i + 3)) h n Nx) (hK : ∀ (h' : Nat → et_MC) (n' nc' ns' : Nat), nc' ≤ nc + 1000 → ns' ≤ ns + 10000 → Nx h' n' → et_M sc Y_Law 900 mc ms et_one 669 [some (.retAddr sc.1), some (.ref 0), some (.ref 64), some (.ref 84), some (.int (nI i)), none, none, none] [] h' n' nc' ns') : et_M sc Y_Law 900 mc ms et_one 112 [some (.retAddr sc.1), some (.ref 0), some (.ref 64), some (.ref 84), some (.int (nI i)), none, none, none] [] h n nc ns := by
  obtain ⟨mcc, msc, Px, b1, b2, ⟨fs, f0⟩, hx, hy⟩ := hk
  refine et_aload_n (i := 1) d_Law_112 rfl rfl ?_
  refine et_cell i 1 d_Law_113 d_Law_114 d_Law_116 d_Law_117 d_Law_118 (by decide) (by omega) hL ?_
  refine et_i2l d_Law_119 rfl ?_
  refine et_bipush (v := 32) d_Law_120 (by decide) ?_
  refine et_lshl d_Law_122 rfl ?_
  refine et_cell i 2 d_Law_123 d_Law_124 d_Law_126 d_Law_127 d_Law_128 (by decide) (by omega) hL ?_
  refine et_i2l d_Law_129 rfl ?_
  refine et_ldc2 d_Law_130 kl_L_48 ?_
  refine et_land d_Law_133 ?_
  refine et_lor d_Law_134 ?_
  refine et_cell i 3 d_Law_135 d_Law_136 d_Law_138 d_Law_139 d_Law_140 (by decide) (by omega) hL ?_
  refine et_invV mV_E_type (As := [_, _]) rfl d_Law_141 lk_L_50 len_E_type f0 rfl (Nat.le_of_ble_eq_true rfl) hx (Nat.le_of_ble_eq_true rfl) (by omega) (by omega) (fun v h1 n1 hp => ?_) (fun y h1 n1 hp => by obtain ⟨w, e, _⟩ := hy _ _ _ hp; cases e)
  obtain ⟨w, e, ⟨fs1, f1⟩, Py, hz, hn⟩ := hy _ _ _ hp
  cases e
  refine et_aload_n (i := 2) d_Law_144 rfl rfl ?_
  refine et_cell i 1 d_Law_145 d_Law_146 d_Law_148 d_Law_149 d_Law_150 (by decide) (by omega) hL ?_
  refine et_i2l d_Law_151 rfl ?_
  refine et_bipush (v := 32) d_Law_152 (by decide) ?_
  refine et_lshl d_Law_154 rfl ?_
  refine et_cell i 2 d_Law_155 d_Law_156 d_Law_158 d_Law_159 d_Law_160 (by decide) (by omega) hL ?_
  refine et_i2l d_Law_161 rfl ?_
  refine et_ldc2 d_Law_162 kl_L_48 ?_
  refine et_land d_Law_165 ?_
  refine et_lor d_Law_166 ?_
  refine et_cell i 3 d_Law_167 d_Law_168 d_Law_170 d_Law_171 d_Law_172 (by decide) (by omega) hL ?_
  refine et_invV mV_M_type (As := [_, _]) rfl d_Law_173 lk_L_54 len_M_type f1 rfl (Nat.le_of_ble_eq_true rfl) hz (Nat.le_of_ble_eq_true rfl) (by omega) (by omega) (fun v h2 n2 hp2 => ?_) (fun y h2 n2 hp2 => by cases (hn _ _ _ hp2).1)
  obtain ⟨e, hq⟩ := hn _ _ _ hp2
  cases e
  refine et_icmp_eq (tgt := 669) d_Law_176 (by decide) (fun _ => ?_) (fun q => absurd rfl q)
  exact hK _ _ _ _ (by omega) (by omega) hq
set_option maxHeartbeats 4000000 in
set_option maxRecDepth 100000 in
theorem law_wipe {sc : et_X} {mc ms : Nat} {h : Nat → et_MC} {n nc ns i : Nat} {Nx : (Nat → et_MC) → Nat → Prop} (hi : i + 4 ≤ sc.2.1) (hL : sc.2.1 ≤ 2048) (hmc : nc + 1000 ≤ mc) (hms : ns + 10000 ≤ ms) (hk : et_op sc 1 (sc.2.2 (i + 1)) (sc.2.2 (i + 2)) (sc.2.2 (i + 3)) h n Nx) (hK : ∀ (h' : Nat → et_MC) (n' nc' ns' : Nat), nc' ≤ nc + 1000 → ns' ≤ ns + 10000 → Nx h' n' → et_M sc Y_Law 900 mc ms et_one 669 [some (.retAddr sc.1), some (.ref 0), some (.ref 64), some (.ref 84), some (.int (nI i)), none, none, none] [] h' n' nc' ns') : et_M sc Y_Law 900 mc ms et_one 181 [some (.retAddr sc.1), some (.ref 0), some (.ref 64), some (.ref 84), some (.int (nI i)), none, none, none] [] h n nc ns := by
  obtain ⟨mcc, msc, Px, b1, b2, ⟨fs, f0⟩, hx, hy⟩ := hk
  refine et_aload_n (i := 1) d_Law_181 rfl rfl ?_
  refine et_invV mV_E_wipe (As := []) rfl d_Law_182 lk_L_55 len_E_wipe f0 rfl (Nat.le_of_ble_eq_true rfl) hx (Nat.le_of_ble_eq_true rfl) (by omega) (by omega) (fun v h1 n1 hp => ?_) (fun y h1 n1 hp => by obtain ⟨w, e, _⟩ := hy _ _ _ hp; cases e)
  obtain ⟨w, e, ⟨fs1, f1⟩, Py, hz, hn⟩ := hy _ _ _ hp
  cases e
  refine et_aload_n (i := 2) d_Law_185 rfl rfl ?_
  refine et_invV mV_M_wipe (As := []) rfl d_Law_186 lk_L_58 len_M_wipe f1 rfl (Nat.le_of_ble_eq_true rfl) hz (Nat.le_of_ble_eq_true rfl) (by omega) (by omega) (fun v h2 n2 hp2 => ?_) (fun y h2 n2 hp2 => by cases (hn _ _ _ hp2).1)
  obtain ⟨e, hq⟩ := hn _ _ _ hp2
  cases e
  refine et_icmp_eq (tgt := 669) d_Law_189 (by decide) (fun _ => ?_) (fun q => absurd rfl q)
  exact hK _ _ _ _ (by omega) (by omega) hq
set_option maxHeartbeats 4000000 in
set_option maxRecDepth 100000 in
theorem law_character {sc : et_X} {mc ms : Nat} {h : Nat → et_MC} {n nc ns i : Nat} {Nx : (Nat → et_MC) → Nat → Prop} (hi : i + 4 ≤ sc.2.1) (hL : sc.2.1 ≤ 2048) (hmc : nc + 1000 ≤ mc) (hms : ns + 10000 ≤ ms) (hk : et_op sc 2 (sc.2.2 (i + 1)) (sc.2.2 (i + 2)) (sc.2.2 (i + 3)) h n Nx) (hK : ∀ (h' : Nat → et_MC) (n' nc' ns' : Nat), nc' ≤ nc + 1000 → ns' ≤ ns + 10000 → Nx h' n' → et_M sc Y_Law 900 mc ms et_one 669 [some (.retAddr sc.1), some (.ref 0), some (.ref 64), some (.ref 84), some (.int (nI i)), none, none, none] [] h' n' nc' ns') : et_M sc Y_Law 900 mc ms et_one 194 [some (.retAddr sc.1), some (.ref 0), some (.ref 64), some (.ref 84), some (.int (nI i)), none, none, none] [] h n nc ns := by
  obtain ⟨mcc, msc, Px, b1, b2, ⟨fs, f0⟩, hx, hy⟩ := hk
  refine et_aload_n (i := 1) d_Law_194 rfl rfl ?_
  refine et_cell i 1 d_Law_195 d_Law_196 d_Law_198 d_Law_199 d_Law_200 (by decide) (by omega) hL ?_
  refine et_invV mV_E_character (As := [_]) rfl d_Law_201 lk_L_59 len_E_character f0 rfl (Nat.le_of_ble_eq_true rfl) hx (Nat.le_of_ble_eq_true rfl) (by omega) (by omega) (fun v h1 n1 hp => ?_) (fun y h1 n1 hp => by obtain ⟨w, e, _⟩ := hy _ _ _ hp; cases e)
  obtain ⟨w, e, ⟨fs1, f1⟩, Py, hz, hn⟩ := hy _ _ _ hp
  cases e
  refine et_aload_n (i := 2) d_Law_204 rfl rfl ?_
  refine et_cell i 1 d_Law_205 d_Law_206 d_Law_208 d_Law_209 d_Law_210 (by decide) (by omega) hL ?_
  refine et_invV mV_M_character (As := [_]) rfl d_Law_211 lk_L_62 len_M_character f1 rfl (Nat.le_of_ble_eq_true rfl) hz (Nat.le_of_ble_eq_true rfl) (by omega) (by omega) (fun v h2 n2 hp2 => ?_) (fun y h2 n2 hp2 => by cases (hn _ _ _ hp2).1)
  obtain ⟨e, hq⟩ := hn _ _ _ hp2
  cases e
  refine et_icmp_eq (tgt := 669) d_Law_214 (by decide) (fun _ => ?_) (fun q => absurd rfl q)
  exact hK _ _ _ _ (by omega) (by omega) hq
set_option maxHeartbeats 4000000 in
set_option maxRecDepth 100000 in
theorem law_place {sc : et_X} {mc ms : Nat} {h : Nat → et_MC} {n nc ns i : Nat} {Nx : (Nat → et_MC) → Nat → Prop} (hi : i + 4 ≤ sc.2.1) (hL : sc.2.1 ≤ 2048) (hmc : nc + 1000 ≤ mc) (hms : ns + 10000 ≤ ms) (hk : et_op sc 3 (sc.2.2 (i + 1)) (sc.2.2 (i + 2)) (sc.2.2 (i + 3)) h n Nx) (hK : ∀ (h' : Nat → et_MC) (n' nc' ns' : Nat), nc' ≤ nc + 1000 → ns' ≤ ns + 10000 → Nx h' n' → et_M sc Y_Law 900 mc ms et_one 669 [some (.retAddr sc.1), some (.ref 0), some (.ref 64), some (.ref 84), some (.int (nI i)), none, none, none] [] h' n' nc' ns') : et_M sc Y_Law 900 mc ms et_one 219 [some (.retAddr sc.1), some (.ref 0), some (.ref 64), some (.ref 84), some (.int (nI i)), none, none, none] [] h n nc ns := by
  obtain ⟨mcc, msc, Px, b1, b2, ⟨fs, f0⟩, hx, hy⟩ := hk
  refine et_aload_n (i := 1) d_Law_219 rfl rfl ?_
  refine et_invV mV_E_place (As := []) rfl d_Law_220 lk_L_63 len_E_place f0 rfl (Nat.le_of_ble_eq_true rfl) hx (Nat.le_of_ble_eq_true rfl) (by omega) (by omega) (fun v h1 n1 hp => ?_) (fun y h1 n1 hp => by obtain ⟨w, e, _⟩ := hy _ _ _ hp; cases e)
  obtain ⟨w, e, ⟨fs1, f1⟩, Py, hz, hn⟩ := hy _ _ _ hp
  cases e
  refine et_aload_n (i := 2) d_Law_223 rfl rfl ?_
  refine et_invV mV_M_place (As := []) rfl d_Law_224 lk_L_66 len_M_place f1 rfl (Nat.le_of_ble_eq_true rfl) hz (Nat.le_of_ble_eq_true rfl) (by omega) (by omega) (fun v h2 n2 hp2 => ?_) (fun y h2 n2 hp2 => by cases (hn _ _ _ hp2).1)
  obtain ⟨e, hq⟩ := hn _ _ _ hp2
  cases e
  refine et_icmp_eq (tgt := 669) d_Law_227 (by decide) (fun _ => ?_) (fun q => absurd rfl q)
  exact hK _ _ _ _ (by omega) (by omega) hq
set_option maxHeartbeats 4000000 in
set_option maxRecDepth 100000 in
theorem law_rule {sc : et_X} {mc ms : Nat} {h : Nat → et_MC} {n nc ns i : Nat} {Nx : (Nat → et_MC) → Nat → Prop} (hi : i + 4 ≤ sc.2.1) (hL : sc.2.1 ≤ 2048) (hmc : nc + 1000 ≤ mc) (hms : ns + 10000 ≤ ms) (hk : et_op sc 4 (sc.2.2 (i + 1)) (sc.2.2 (i + 2)) (sc.2.2 (i + 3)) h n Nx) (hK : ∀ (h' : Nat → et_MC) (n' nc' ns' : Nat), nc' ≤ nc + 1000 → ns' ≤ ns + 10000 → Nx h' n' → et_M sc Y_Law 900 mc ms et_one 669 [some (.retAddr sc.1), some (.ref 0), some (.ref 64), some (.ref 84), some (.int (nI i)), none, none, none] [] h' n' nc' ns') : et_M sc Y_Law 900 mc ms et_one 232 [some (.retAddr sc.1), some (.ref 0), some (.ref 64), some (.ref 84), some (.int (nI i)), none, none, none] [] h n nc ns := by
  obtain ⟨mcc, msc, Px, b1, b2, hx, hy⟩ := hk
  refine et_aload_n (i := 1) d_Law_232 rfl rfl ?_
  refine et_aload_n (i := 3) d_Law_233 rfl rfl ?_
  refine et_invS mS_L_rule (As := [_, _]) rfl d_Law_234 lk_L_67 len_L_rule (Nat.le_of_ble_eq_true rfl) hx (Nat.le_of_ble_eq_true rfl) (by omega) (by omega) (fun v h1 n1 hp => ?_) (fun y h1 n1 hp => by obtain ⟨w, e, _⟩ := hy _ _ _ hp; cases e)
  obtain ⟨k, e, ⟨fs1, f1⟩, Py, hz, hn⟩ := hy _ _ _ hp
  cases e
  refine et_istore (lv' := [_, _, _, _, _, _, _, _]) d_Law_237 (by decide) rfl rfl ?_
  refine et_aload_n (i := 2) d_Law_239 rfl rfl ?_
  refine et_invV mV_M_rule (As := []) rfl d_Law_240 lk_L_72 len_M_rule f1 rfl (Nat.le_of_ble_eq_true rfl) hz (Nat.le_of_ble_eq_true rfl) (by omega) (by omega) (fun v h2 n2 hp2 => ?_) (fun y h2 n2 hp2 => by obtain ⟨v, e, _⟩ := hn _ _ _ hp2; cases e)
  obtain ⟨v2, e, ⟨fs2, f2⟩, han, hq⟩ := hn _ _ _ hp2
  cases e
  obtain ⟨b, hb, hout⟩ := han
  subst hb
  refine et_istore (lv' := [_, _, _, _, _, _, _, _]) d_Law_243 (by decide) rfl rfl ?_
  refine et_aload_n (i := 2) d_Law_245 rfl rfl ?_
  refine et_invV mV_M_thrown (As := []) rfl d_Law_246 lk_L_73 len_M_thrown f2 rfl (Nat.le_of_ble_eq_true rfl) (c_M_thrown (d := 899) f2) (Nat.le_of_ble_eq_true rfl) (by omega) (by omega) (fun v h3 n3 hp3 => ?_) (fun y h3 n3 hp3 => by cases hp3.1)
  obtain ⟨e, rfl, rfl⟩ := hp3
  cases e
  refine et_iload d_Law_249 rfl ?_
  refine et_icmp_eq (tgt := 256) d_Law_251 (by decide) (fun _ => ?_) (fun q => absurd rfl q)
  refine et_iload d_Law_256 rfl ?_
  refine et_if_ne (tgt := 273) d_Law_258 (by decide) (fun q0 => ?_) (fun q0 => ?_)
  · refine et_goto (tgt := 669) d_Law_273 (by decide) ?_
    refine et_weak et_w8 ?_
    exact hK _ _ _ _ (by omega) (by omega) hq
  · obtain ⟨g, g1, g2⟩ := hout q0
    refine et_aload_n (i := 3) d_Law_261 rfl rfl ?_
    refine et_iconst (v := 0) d_Law_262 (by decide) ?_
    refine et_lald d_Law_263 g1 (vp_in_nI (show 0 < 1 by decide) (by decide)) ?_
    refine et_iload d_Law_264 rfl ?_
    refine et_i2l d_Law_266 rfl ?_
    refine et_lcmp d_Law_267 ?_
    refine et_if_eq (tgt := 273) d_Law_268 (by decide) (fun _ => ?_) (fun q => absurd (et_cmp0 g2) q)
    refine et_goto (tgt := 669) d_Law_273 (by decide) ?_
    refine et_weak et_w8 ?_
    exact hK _ _ _ _ (by omega) (by omega) hq
set_option maxHeartbeats 4000000 in
set_option maxRecDepth 100000 in
theorem law_add {sc : et_X} {mc ms : Nat} {h : Nat → et_MC} {n nc ns i : Nat} {Nx : (Nat → et_MC) → Nat → Prop} (hi : i + 4 ≤ sc.2.1) (hL : sc.2.1 ≤ 2048) (hmc : nc + 1000 ≤ mc) (hms : ns + 10000 ≤ ms) (hk : et_op sc 5 (sc.2.2 (i + 1)) (sc.2.2 (i + 2)) (sc.2.2 (i + 3)) h n Nx) (hK : ∀ (h' : Nat → et_MC) (n' nc' ns' : Nat), nc' ≤ nc + 1000 → ns' ≤ ns + 10000 → Nx h' n' → et_M sc Y_Law 900 mc ms et_one 669 [some (.retAddr sc.1), some (.ref 0), some (.ref 64), some (.ref 84), some (.int (nI i)), none, none, none] [] h' n' nc' ns') : et_M sc Y_Law 900 mc ms et_one 276 [some (.retAddr sc.1), some (.ref 0), some (.ref 64), some (.ref 84), some (.int (nI i)), none, none, none] [] h n nc ns := by
  obtain ⟨mcc, msc, Px, b1, b2, hx, hy⟩ := hk
  refine et_aload_n (i := 1) d_Law_276 rfl rfl ?_
  refine et_aload_n (i := 3) d_Law_277 rfl rfl ?_
  refine et_invS mS_L_add (As := [_, _]) rfl d_Law_278 lk_L_76 len_L_add (Nat.le_of_ble_eq_true rfl) hx (Nat.le_of_ble_eq_true rfl) (by omega) (by omega) (fun v h1 n1 hp => ?_) (fun y h1 n1 hp => by obtain ⟨w, e, _⟩ := hy _ _ _ hp; cases e)
  obtain ⟨k, e, ⟨fs1, f1⟩, Py, hz, hn⟩ := hy _ _ _ hp
  cases e
  refine et_istore (lv' := [_, _, _, _, _, _, _, _]) d_Law_281 (by decide) rfl rfl ?_
  refine et_aload_n (i := 2) d_Law_283 rfl rfl ?_
  refine et_invV mV_M_add (As := []) rfl d_Law_284 lk_L_78 len_M_add f1 rfl (Nat.le_of_ble_eq_true rfl) hz (Nat.le_of_ble_eq_true rfl) (by omega) (by omega) (fun v h2 n2 hp2 => ?_) (fun y h2 n2 hp2 => by obtain ⟨v, e, _⟩ := hn _ _ _ hp2; cases e)
  obtain ⟨v2, e, ⟨fs2, f2⟩, han, hq⟩ := hn _ _ _ hp2
  cases e
  obtain ⟨b, hb, hout⟩ := han
  subst hb
  refine et_istore (lv' := [_, _, _, _, _, _, _, _]) d_Law_287 (by decide) rfl rfl ?_
  refine et_aload_n (i := 2) d_Law_289 rfl rfl ?_
  refine et_invV mV_M_thrown (As := []) rfl d_Law_290 lk_L_73 len_M_thrown f2 rfl (Nat.le_of_ble_eq_true rfl) (c_M_thrown (d := 899) f2) (Nat.le_of_ble_eq_true rfl) (by omega) (by omega) (fun v h3 n3 hp3 => ?_) (fun y h3 n3 hp3 => by cases hp3.1)
  obtain ⟨e, rfl, rfl⟩ := hp3
  cases e
  refine et_iload d_Law_293 rfl ?_
  refine et_icmp_eq (tgt := 300) d_Law_295 (by decide) (fun _ => ?_) (fun q => absurd rfl q)
  refine et_iload d_Law_300 rfl ?_
  refine et_if_ne (tgt := 317) d_Law_302 (by decide) (fun q0 => ?_) (fun q0 => ?_)
  · refine et_goto (tgt := 669) d_Law_317 (by decide) ?_
    refine et_weak et_w8 ?_
    exact hK _ _ _ _ (by omega) (by omega) hq
  · obtain ⟨g, g1, g2⟩ := hout q0
    refine et_aload_n (i := 3) d_Law_305 rfl rfl ?_
    refine et_iconst (v := 0) d_Law_306 (by decide) ?_
    refine et_lald d_Law_307 g1 (vp_in_nI (show 0 < 1 by decide) (by decide)) ?_
    refine et_iload d_Law_308 rfl ?_
    refine et_i2l d_Law_310 rfl ?_
    refine et_lcmp d_Law_311 ?_
    refine et_if_eq (tgt := 317) d_Law_312 (by decide) (fun _ => ?_) (fun q => absurd (et_cmp0 g2) q)
    refine et_goto (tgt := 669) d_Law_317 (by decide) ?_
    refine et_weak et_w8 ?_
    exact hK _ _ _ _ (by omega) (by omega) hq
set_option maxHeartbeats 4000000 in
set_option maxRecDepth 100000 in
theorem law_unite {sc : et_X} {mc ms : Nat} {h : Nat → et_MC} {n nc ns i : Nat} {Nx : (Nat → et_MC) → Nat → Prop} (hi : i + 4 ≤ sc.2.1) (hL : sc.2.1 ≤ 2048) (hmc : nc + 1000 ≤ mc) (hms : ns + 10000 ≤ ms) (hk : et_op sc 6 (sc.2.2 (i + 1)) (sc.2.2 (i + 2)) (sc.2.2 (i + 3)) h n Nx) (hK : ∀ (h' : Nat → et_MC) (n' nc' ns' : Nat), nc' ≤ nc + 1000 → ns' ≤ ns + 10000 → Nx h' n' → et_M sc Y_Law 900 mc ms et_one 669 [some (.retAddr sc.1), some (.ref 0), some (.ref 64), some (.ref 84), some (.int (nI i)), none, none, none] [] h' n' nc' ns') : et_M sc Y_Law 900 mc ms et_one 320 [some (.retAddr sc.1), some (.ref 0), some (.ref 64), some (.ref 84), some (.int (nI i)), none, none, none] [] h n nc ns := by
  obtain ⟨mcc, msc, Px, b1, b2, hx, hy⟩ := hk
  refine et_aload_n (i := 1) d_Law_320 rfl rfl ?_
  refine et_aload_n (i := 3) d_Law_321 rfl rfl ?_
  refine et_invS mS_L_unite (As := [_, _]) rfl d_Law_322 lk_L_79 len_L_unite (Nat.le_of_ble_eq_true rfl) hx (Nat.le_of_ble_eq_true rfl) (by omega) (by omega) (fun v h1 n1 hp => ?_) (fun y h1 n1 hp => by obtain ⟨w, e, _⟩ := hy _ _ _ hp; cases e)
  obtain ⟨k, e, ⟨fs1, f1⟩, Py, hz, hn⟩ := hy _ _ _ hp
  cases e
  refine et_istore (lv' := [_, _, _, _, _, _, _, _]) d_Law_325 (by decide) rfl rfl ?_
  refine et_aload_n (i := 2) d_Law_327 rfl rfl ?_
  refine et_invV mV_M_unite (As := []) rfl d_Law_328 lk_L_81 len_M_unite f1 rfl (Nat.le_of_ble_eq_true rfl) hz (Nat.le_of_ble_eq_true rfl) (by omega) (by omega) (fun v h2 n2 hp2 => ?_) (fun y h2 n2 hp2 => by obtain ⟨v, e, _⟩ := hn _ _ _ hp2; cases e)
  obtain ⟨v2, e, ⟨fs2, f2⟩, han, hq⟩ := hn _ _ _ hp2
  cases e
  obtain ⟨b, hb, hout⟩ := han
  subst hb
  refine et_istore (lv' := [_, _, _, _, _, _, _, _]) d_Law_331 (by decide) rfl rfl ?_
  refine et_aload_n (i := 2) d_Law_333 rfl rfl ?_
  refine et_invV mV_M_thrown (As := []) rfl d_Law_334 lk_L_73 len_M_thrown f2 rfl (Nat.le_of_ble_eq_true rfl) (c_M_thrown (d := 899) f2) (Nat.le_of_ble_eq_true rfl) (by omega) (by omega) (fun v h3 n3 hp3 => ?_) (fun y h3 n3 hp3 => by cases hp3.1)
  obtain ⟨e, rfl, rfl⟩ := hp3
  cases e
  refine et_iload d_Law_337 rfl ?_
  refine et_icmp_eq (tgt := 344) d_Law_339 (by decide) (fun _ => ?_) (fun q => absurd rfl q)
  refine et_iload d_Law_344 rfl ?_
  refine et_if_ne (tgt := 361) d_Law_346 (by decide) (fun q0 => ?_) (fun q0 => ?_)
  · refine et_goto (tgt := 669) d_Law_361 (by decide) ?_
    refine et_weak et_w8 ?_
    exact hK _ _ _ _ (by omega) (by omega) hq
  · obtain ⟨g, g1, g2⟩ := hout q0
    refine et_aload_n (i := 3) d_Law_349 rfl rfl ?_
    refine et_iconst (v := 0) d_Law_350 (by decide) ?_
    refine et_lald d_Law_351 g1 (vp_in_nI (show 0 < 1 by decide) (by decide)) ?_
    refine et_iload d_Law_352 rfl ?_
    refine et_i2l d_Law_354 rfl ?_
    refine et_lcmp d_Law_355 ?_
    refine et_if_eq (tgt := 361) d_Law_356 (by decide) (fun _ => ?_) (fun q => absurd (et_cmp0 g2) q)
    refine et_goto (tgt := 669) d_Law_361 (by decide) ?_
    refine et_weak et_w8 ?_
    exact hK _ _ _ _ (by omega) (by omega) hq
set_option maxHeartbeats 4000000 in
set_option maxRecDepth 100000 in
theorem law_same {sc : et_X} {mc ms : Nat} {h : Nat → et_MC} {n nc ns i : Nat} {Nx : (Nat → et_MC) → Nat → Prop} (hi : i + 4 ≤ sc.2.1) (hL : sc.2.1 ≤ 2048) (hmc : nc + 1000 ≤ mc) (hms : ns + 10000 ≤ ms) (hk : et_op sc 7 (sc.2.2 (i + 1)) (sc.2.2 (i + 2)) (sc.2.2 (i + 3)) h n Nx) (hK : ∀ (h' : Nat → et_MC) (n' nc' ns' : Nat), nc' ≤ nc + 1000 → ns' ≤ ns + 10000 → Nx h' n' → et_M sc Y_Law 900 mc ms et_one 669 [some (.retAddr sc.1), some (.ref 0), some (.ref 64), some (.ref 84), some (.int (nI i)), none, none, none] [] h' n' nc' ns') : et_M sc Y_Law 900 mc ms et_one 364 [some (.retAddr sc.1), some (.ref 0), some (.ref 64), some (.ref 84), some (.int (nI i)), none, none, none] [] h n nc ns := by
  obtain ⟨mcc, msc, Px, b1, b2, hx, hy⟩ := hk
  refine et_aload_n (i := 1) d_Law_364 rfl rfl ?_
  refine et_aload_n (i := 3) d_Law_365 rfl rfl ?_
  refine et_invS mS_L_same (As := [_, _]) rfl d_Law_366 lk_L_82 len_L_same (Nat.le_of_ble_eq_true rfl) hx (Nat.le_of_ble_eq_true rfl) (by omega) (by omega) (fun v h1 n1 hp => ?_) (fun y h1 n1 hp => by obtain ⟨w, e, _⟩ := hy _ _ _ hp; cases e)
  obtain ⟨k, e, ⟨fs1, f1⟩, Py, hz, hn⟩ := hy _ _ _ hp
  cases e
  refine et_istore (lv' := [_, _, _, _, _, _, _, _]) d_Law_369 (by decide) rfl rfl ?_
  refine et_aload_n (i := 2) d_Law_371 rfl rfl ?_
  refine et_invV mV_M_same (As := []) rfl d_Law_372 lk_L_84 len_M_same f1 rfl (Nat.le_of_ble_eq_true rfl) hz (Nat.le_of_ble_eq_true rfl) (by omega) (by omega) (fun v h2 n2 hp2 => ?_) (fun y h2 n2 hp2 => by obtain ⟨v, e, _⟩ := hn _ _ _ hp2; cases e)
  obtain ⟨v2, e, ⟨fs2, f2⟩, han, hq⟩ := hn _ _ _ hp2
  cases e
  obtain ⟨b, hb, hout⟩ := han
  subst hb
  refine et_istore (lv' := [_, _, _, _, _, _, _, _]) d_Law_375 (by decide) rfl rfl ?_
  refine et_aload_n (i := 2) d_Law_377 rfl rfl ?_
  refine et_invV mV_M_thrown (As := []) rfl d_Law_378 lk_L_73 len_M_thrown f2 rfl (Nat.le_of_ble_eq_true rfl) (c_M_thrown (d := 899) f2) (Nat.le_of_ble_eq_true rfl) (by omega) (by omega) (fun v h3 n3 hp3 => ?_) (fun y h3 n3 hp3 => by cases hp3.1)
  obtain ⟨e, rfl, rfl⟩ := hp3
  cases e
  refine et_iload d_Law_381 rfl ?_
  refine et_icmp_eq (tgt := 388) d_Law_383 (by decide) (fun _ => ?_) (fun q => absurd rfl q)
  refine et_iload d_Law_388 rfl ?_
  refine et_if_ne (tgt := 405) d_Law_390 (by decide) (fun q0 => ?_) (fun q0 => ?_)
  · refine et_goto (tgt := 669) d_Law_405 (by decide) ?_
    refine et_weak et_w8 ?_
    exact hK _ _ _ _ (by omega) (by omega) hq
  · obtain ⟨g, g1, g2⟩ := hout q0
    refine et_aload_n (i := 3) d_Law_393 rfl rfl ?_
    refine et_iconst (v := 0) d_Law_394 (by decide) ?_
    refine et_lald d_Law_395 g1 (vp_in_nI (show 0 < 1 by decide) (by decide)) ?_
    refine et_iload d_Law_396 rfl ?_
    refine et_i2l d_Law_398 rfl ?_
    refine et_lcmp d_Law_399 ?_
    refine et_if_eq (tgt := 405) d_Law_400 (by decide) (fun _ => ?_) (fun q => absurd (et_cmp0 g2) q)
    refine et_goto (tgt := 669) d_Law_405 (by decide) ?_
    refine et_weak et_w8 ?_
    exact hK _ _ _ _ (by omega) (by omega) hq
set_option maxHeartbeats 4000000 in
set_option maxRecDepth 100000 in
theorem law_price {sc : et_X} {mc ms : Nat} {h : Nat → et_MC} {n nc ns i : Nat} {Nx : (Nat → et_MC) → Nat → Prop} (hi : i + 4 ≤ sc.2.1) (hL : sc.2.1 ≤ 2048) (hmc : nc + 1000 ≤ mc) (hms : ns + 10000 ≤ ms) (hk : et_op sc 8 (sc.2.2 (i + 1)) (sc.2.2 (i + 2)) (sc.2.2 (i + 3)) h n Nx) (hK : ∀ (h' : Nat → et_MC) (n' nc' ns' : Nat), nc' ≤ nc + 1000 → ns' ≤ ns + 10000 → Nx h' n' → et_M sc Y_Law 900 mc ms et_one 669 [some (.retAddr sc.1), some (.ref 0), some (.ref 64), some (.ref 84), some (.int (nI i)), none, none, none] [] h' n' nc' ns') : et_M sc Y_Law 900 mc ms et_one 408 [some (.retAddr sc.1), some (.ref 0), some (.ref 64), some (.ref 84), some (.int (nI i)), none, none, none] [] h n nc ns := by
  obtain ⟨mcc, msc, Px, b1, b2, hx, hy⟩ := hk
  refine et_aload_n (i := 1) d_Law_408 rfl rfl ?_
  refine et_cell i 1 d_Law_409 d_Law_410 d_Law_412 d_Law_413 d_Law_414 (by decide) (by omega) hL ?_
  refine et_cell i 2 d_Law_415 d_Law_416 d_Law_418 d_Law_419 d_Law_420 (by decide) (by omega) hL ?_
  refine et_invS mS_L_price (As := [_, _, _]) rfl d_Law_421 lk_L_85 len_L_price (Nat.le_of_ble_eq_true rfl) hx (Nat.le_of_ble_eq_true rfl) (by omega) (by omega) (fun v h1 n1 hp => ?_) (fun y h1 n1 hp => by obtain ⟨w, e, _⟩ := hy _ _ _ hp; cases e)
  obtain ⟨k, e, ⟨fs1, f1⟩, Py, hz, hn⟩ := hy _ _ _ hp
  cases e
  refine et_istore (lv' := [_, _, _, _, _, _, _, _]) d_Law_424 (by decide) rfl rfl ?_
  refine et_aload_n (i := 2) d_Law_426 rfl rfl ?_
  refine et_cell i 1 d_Law_427 d_Law_428 d_Law_430 d_Law_431 d_Law_432 (by decide) (by omega) hL ?_
  refine et_cell i 2 d_Law_433 d_Law_434 d_Law_436 d_Law_437 d_Law_438 (by decide) (by omega) hL ?_
  refine et_invV mV_M_price (As := [_, _]) rfl d_Law_439 lk_L_88 len_M_price f1 rfl (Nat.le_of_ble_eq_true rfl) hz (Nat.le_of_ble_eq_true rfl) (by omega) (by omega) (fun v h2 n2 hp2 => ?_) (fun y h2 n2 hp2 => by obtain ⟨v, e, _⟩ := hn _ _ _ hp2; cases e)
  obtain ⟨v2, e, ⟨fs2, f2⟩, han, hq⟩ := hn _ _ _ hp2
  cases e
  cases han
  refine et_aload_n (i := 2) d_Law_442 rfl rfl ?_
  refine et_invV mV_M_thrown (As := []) rfl d_Law_443 lk_L_73 len_M_thrown f2 rfl (Nat.le_of_ble_eq_true rfl) (c_M_thrown (d := 899) f2) (Nat.le_of_ble_eq_true rfl) (by omega) (by omega) (fun v h3 n3 hp3 => ?_) (fun y h3 n3 hp3 => by cases hp3.1)
  obtain ⟨e, rfl, rfl⟩ := hp3
  cases e
  refine et_iload d_Law_446 rfl ?_
  refine et_icmp_eq (tgt := 453) d_Law_448 (by decide) (fun _ => ?_) (fun q => absurd rfl q)
  refine et_goto (tgt := 669) d_Law_453 (by decide) ?_
  refine et_weak et_w8 ?_
  exact hK _ _ _ _ (by omega) (by omega) hq
set_option maxHeartbeats 4000000 in
set_option maxRecDepth 100000 in
theorem law_rounds {sc : et_X} {mc ms : Nat} {h : Nat → et_MC} {n nc ns i : Nat} {Nx : (Nat → et_MC) → Nat → Prop} (hi : i + 4 ≤ sc.2.1) (hL : sc.2.1 ≤ 2048) (hmc : nc + 1000 ≤ mc) (hms : ns + 10000 ≤ ms) (hk : et_op sc 9 (sc.2.2 (i + 1)) (sc.2.2 (i + 2)) (sc.2.2 (i + 3)) h n Nx) (hK : ∀ (h' : Nat → et_MC) (n' nc' ns' : Nat), nc' ≤ nc + 1000 → ns' ≤ ns + 10000 → Nx h' n' → et_M sc Y_Law 900 mc ms et_one 669 [some (.retAddr sc.1), some (.ref 0), some (.ref 64), some (.ref 84), some (.int (nI i)), none, none, none] [] h' n' nc' ns') : et_M sc Y_Law 900 mc ms et_one 456 [some (.retAddr sc.1), some (.ref 0), some (.ref 64), some (.ref 84), some (.int (nI i)), none, none, none] [] h n nc ns := by
  obtain ⟨mcc, msc, Px, b1, b2, hx, hy⟩ := hk
  refine et_aload_n (i := 1) d_Law_456 rfl rfl ?_
  refine et_cell i 1 d_Law_457 d_Law_458 d_Law_460 d_Law_461 d_Law_462 (by decide) (by omega) hL ?_
  refine et_aload_n (i := 3) d_Law_463 rfl rfl ?_
  refine et_invS mS_L_rounds (As := [_, _, _]) rfl d_Law_464 lk_L_89 len_L_rounds (Nat.le_of_ble_eq_true rfl) hx (Nat.le_of_ble_eq_true rfl) (by omega) (by omega) (fun v h1 n1 hp => ?_) (fun y h1 n1 hp => by obtain ⟨w, e, _⟩ := hy _ _ _ hp; cases e)
  obtain ⟨k, e, ⟨fs1, f1⟩, Py, hz, hn⟩ := hy _ _ _ hp
  cases e
  refine et_istore (lv' := [_, _, _, _, _, _, _, _]) d_Law_467 (by decide) rfl rfl ?_
  refine et_aload_n (i := 2) d_Law_469 rfl rfl ?_
  refine et_cell i 1 d_Law_470 d_Law_471 d_Law_473 d_Law_474 d_Law_475 (by decide) (by omega) hL ?_
  refine et_invV mV_M_rounds (As := [_]) rfl d_Law_476 lk_L_92 len_M_rounds f1 rfl (Nat.le_of_ble_eq_true rfl) hz (Nat.le_of_ble_eq_true rfl) (by omega) (by omega) (fun v h2 n2 hp2 => ?_) (fun y h2 n2 hp2 => by obtain ⟨v, e, _⟩ := hn _ _ _ hp2; cases e)
  obtain ⟨v2, e, ⟨fs2, f2⟩, han, hq⟩ := hn _ _ _ hp2
  cases e
  obtain ⟨b, hb, hout⟩ := han
  subst hb
  refine et_istore (lv' := [_, _, _, _, _, _, _, _]) d_Law_479 (by decide) rfl rfl ?_
  refine et_aload_n (i := 2) d_Law_481 rfl rfl ?_
  refine et_invV mV_M_thrown (As := []) rfl d_Law_482 lk_L_73 len_M_thrown f2 rfl (Nat.le_of_ble_eq_true rfl) (c_M_thrown (d := 899) f2) (Nat.le_of_ble_eq_true rfl) (by omega) (by omega) (fun v h3 n3 hp3 => ?_) (fun y h3 n3 hp3 => by cases hp3.1)
  obtain ⟨e, rfl, rfl⟩ := hp3
  cases e
  refine et_iload d_Law_485 rfl ?_
  refine et_icmp_eq (tgt := 492) d_Law_487 (by decide) (fun _ => ?_) (fun q => absurd rfl q)
  refine et_iload d_Law_492 rfl ?_
  refine et_if_ne (tgt := 509) d_Law_494 (by decide) (fun q0 => ?_) (fun q0 => ?_)
  · refine et_goto (tgt := 669) d_Law_509 (by decide) ?_
    refine et_weak et_w8 ?_
    exact hK _ _ _ _ (by omega) (by omega) hq
  · obtain ⟨g, g1, g2⟩ := hout q0
    refine et_aload_n (i := 3) d_Law_497 rfl rfl ?_
    refine et_iconst (v := 0) d_Law_498 (by decide) ?_
    refine et_lald d_Law_499 g1 (vp_in_nI (show 0 < 1 by decide) (by decide)) ?_
    refine et_iload d_Law_500 rfl ?_
    refine et_i2l d_Law_502 rfl ?_
    refine et_lcmp d_Law_503 ?_
    refine et_if_eq (tgt := 509) d_Law_504 (by decide) (fun _ => ?_) (fun q => absurd (et_cmp0 g2) q)
    refine et_goto (tgt := 669) d_Law_509 (by decide) ?_
    refine et_weak et_w8 ?_
    exact hK _ _ _ _ (by omega) (by omega) hq
set_option maxHeartbeats 4000000 in
set_option maxRecDepth 100000 in
theorem law_nodes {sc : et_X} {mc ms : Nat} {h : Nat → et_MC} {n nc ns i : Nat} {Nx : (Nat → et_MC) → Nat → Prop} (hi : i + 4 ≤ sc.2.1) (hL : sc.2.1 ≤ 2048) (hmc : nc + 1000 ≤ mc) (hms : ns + 10000 ≤ ms) (hk : et_op sc 10 (sc.2.2 (i + 1)) (sc.2.2 (i + 2)) (sc.2.2 (i + 3)) h n Nx) (hK : ∀ (h' : Nat → et_MC) (n' nc' ns' : Nat), nc' ≤ nc + 1000 → ns' ≤ ns + 10000 → Nx h' n' → et_M sc Y_Law 900 mc ms et_one 669 [some (.retAddr sc.1), some (.ref 0), some (.ref 64), some (.ref 84), some (.int (nI i)), none, none, none] [] h' n' nc' ns') : et_M sc Y_Law 900 mc ms et_one 512 [some (.retAddr sc.1), some (.ref 0), some (.ref 64), some (.ref 84), some (.int (nI i)), none, none, none] [] h n nc ns := by
  obtain ⟨mcc, msc, Px, b1, b2, ⟨fs, f0⟩, hx, hy⟩ := hk
  refine et_aload_n (i := 1) d_Law_512 rfl rfl ?_
  refine et_invV mV_E_nodes (As := []) rfl d_Law_513 lk_L_93 len_E_nodes f0 rfl (Nat.le_of_ble_eq_true rfl) hx (Nat.le_of_ble_eq_true rfl) (by omega) (by omega) (fun v h1 n1 hp => ?_) (fun y h1 n1 hp => by obtain ⟨w, e, _⟩ := hy _ _ _ hp; cases e)
  obtain ⟨w, e, ⟨fs1, f1⟩, Py, hz, hn⟩ := hy _ _ _ hp
  cases e
  refine et_aload_n (i := 2) d_Law_516 rfl rfl ?_
  refine et_invV mV_M_nodes (As := []) rfl d_Law_517 lk_L_96 len_M_nodes f1 rfl (Nat.le_of_ble_eq_true rfl) hz (Nat.le_of_ble_eq_true rfl) (by omega) (by omega) (fun v h2 n2 hp2 => ?_) (fun y h2 n2 hp2 => by cases (hn _ _ _ hp2).1)
  obtain ⟨e, hq⟩ := hn _ _ _ hp2
  cases e
  refine et_icmp_eq (tgt := 669) d_Law_520 (by decide) (fun _ => ?_) (fun q => absurd rfl q)
  exact hK _ _ _ _ (by omega) (by omega) hq
set_option maxHeartbeats 4000000 in
set_option maxRecDepth 100000 in
theorem law_classes {sc : et_X} {mc ms : Nat} {h : Nat → et_MC} {n nc ns i : Nat} {Nx : (Nat → et_MC) → Nat → Prop} (hi : i + 4 ≤ sc.2.1) (hL : sc.2.1 ≤ 2048) (hmc : nc + 1000 ≤ mc) (hms : ns + 10000 ≤ ms) (hk : et_op sc 11 (sc.2.2 (i + 1)) (sc.2.2 (i + 2)) (sc.2.2 (i + 3)) h n Nx) (hK : ∀ (h' : Nat → et_MC) (n' nc' ns' : Nat), nc' ≤ nc + 1000 → ns' ≤ ns + 10000 → Nx h' n' → et_M sc Y_Law 900 mc ms et_one 669 [some (.retAddr sc.1), some (.ref 0), some (.ref 64), some (.ref 84), some (.int (nI i)), none, none, none] [] h' n' nc' ns') : et_M sc Y_Law 900 mc ms et_one 525 [some (.retAddr sc.1), some (.ref 0), some (.ref 64), some (.ref 84), some (.int (nI i)), none, none, none] [] h n nc ns := by
  obtain ⟨mcc, msc, Px, b1, b2, ⟨fs, f0⟩, hx, hy⟩ := hk
  refine et_aload_n (i := 1) d_Law_525 rfl rfl ?_
  refine et_invV mV_E_classes (As := []) rfl d_Law_526 lk_L_97 len_E_classes f0 rfl (Nat.le_of_ble_eq_true rfl) hx (Nat.le_of_ble_eq_true rfl) (by omega) (by omega) (fun v h1 n1 hp => ?_) (fun y h1 n1 hp => by obtain ⟨w, e, _⟩ := hy _ _ _ hp; cases e)
  obtain ⟨w, e, ⟨fs1, f1⟩, Py, hz, hn⟩ := hy _ _ _ hp
  cases e
  refine et_aload_n (i := 2) d_Law_529 rfl rfl ?_
  refine et_invV mV_M_classes (As := []) rfl d_Law_530 lk_L_100 len_M_classes f1 rfl (Nat.le_of_ble_eq_true rfl) hz (Nat.le_of_ble_eq_true rfl) (by omega) (by omega) (fun v h2 n2 hp2 => ?_) (fun y h2 n2 hp2 => by cases (hn _ _ _ hp2).1)
  obtain ⟨e, hq⟩ := hn _ _ _ hp2
  cases e
  refine et_icmp_eq (tgt := 669) d_Law_533 (by decide) (fun _ => ?_) (fun q => absurd rfl q)
  exact hK _ _ _ _ (by omega) (by omega) hq
set_option maxHeartbeats 4000000 in
set_option maxRecDepth 100000 in
theorem law_members {sc : et_X} {mc ms : Nat} {h : Nat → et_MC} {n nc ns i : Nat} {Nx : (Nat → et_MC) → Nat → Prop} (hi : i + 4 ≤ sc.2.1) (hL : sc.2.1 ≤ 2048) (hmc : nc + 1000 ≤ mc) (hms : ns + 10000 ≤ ms) (hk : et_op sc 12 (sc.2.2 (i + 1)) (sc.2.2 (i + 2)) (sc.2.2 (i + 3)) h n Nx) (hK : ∀ (h' : Nat → et_MC) (n' nc' ns' : Nat), nc' ≤ nc + 1000 → ns' ≤ ns + 10000 → Nx h' n' → et_M sc Y_Law 900 mc ms et_one 669 [some (.retAddr sc.1), some (.ref 0), some (.ref 64), some (.ref 84), some (.int (nI i)), none, none, none] [] h' n' nc' ns') : et_M sc Y_Law 900 mc ms et_one 538 [some (.retAddr sc.1), some (.ref 0), some (.ref 64), some (.ref 84), some (.int (nI i)), none, none, none] [] h n nc ns := by
  obtain ⟨mcc, msc, Px, b1, b2, hx, hy⟩ := hk
  refine et_aload_n (i := 1) d_Law_538 rfl rfl ?_
  refine et_aload_n (i := 3) d_Law_539 rfl rfl ?_
  refine et_invS mS_L_members (As := [_, _]) rfl d_Law_540 lk_L_101 len_L_members (Nat.le_of_ble_eq_true rfl) hx (Nat.le_of_ble_eq_true rfl) (by omega) (by omega) (fun v h1 n1 hp => ?_) (fun y h1 n1 hp => by obtain ⟨w, e, _⟩ := hy _ _ _ hp; cases e)
  obtain ⟨k, e, ⟨fs1, f1⟩, Py, hz, hn⟩ := hy _ _ _ hp
  cases e
  refine et_istore (lv' := [_, _, _, _, _, _, _, _]) d_Law_543 (by decide) rfl rfl ?_
  refine et_aload_n (i := 2) d_Law_545 rfl rfl ?_
  refine et_invV mV_M_members (As := []) rfl d_Law_546 lk_L_103 len_M_members f1 rfl (Nat.le_of_ble_eq_true rfl) hz (Nat.le_of_ble_eq_true rfl) (by omega) (by omega) (fun v h2 n2 hp2 => ?_) (fun y h2 n2 hp2 => by obtain ⟨v, e, _⟩ := hn _ _ _ hp2; cases e)
  obtain ⟨v2, e, ⟨fs2, f2⟩, han, hq⟩ := hn _ _ _ hp2
  cases e
  obtain ⟨b, hb, hout⟩ := han
  subst hb
  refine et_istore (lv' := [_, _, _, _, _, _, _, _]) d_Law_549 (by decide) rfl rfl ?_
  refine et_aload_n (i := 2) d_Law_551 rfl rfl ?_
  refine et_invV mV_M_thrown (As := []) rfl d_Law_552 lk_L_73 len_M_thrown f2 rfl (Nat.le_of_ble_eq_true rfl) (c_M_thrown (d := 899) f2) (Nat.le_of_ble_eq_true rfl) (by omega) (by omega) (fun v h3 n3 hp3 => ?_) (fun y h3 n3 hp3 => by cases hp3.1)
  obtain ⟨e, rfl, rfl⟩ := hp3
  cases e
  refine et_iload d_Law_555 rfl ?_
  refine et_icmp_eq (tgt := 562) d_Law_557 (by decide) (fun _ => ?_) (fun q => absurd rfl q)
  refine et_iload d_Law_562 rfl ?_
  refine et_if_ne (tgt := 579) d_Law_564 (by decide) (fun q0 => ?_) (fun q0 => ?_)
  · refine et_goto (tgt := 669) d_Law_579 (by decide) ?_
    refine et_weak et_w8 ?_
    exact hK _ _ _ _ (by omega) (by omega) hq
  · obtain ⟨g, g1, g2⟩ := hout q0
    refine et_aload_n (i := 3) d_Law_567 rfl rfl ?_
    refine et_iconst (v := 0) d_Law_568 (by decide) ?_
    refine et_lald d_Law_569 g1 (vp_in_nI (show 0 < 1 by decide) (by decide)) ?_
    refine et_iload d_Law_570 rfl ?_
    refine et_i2l d_Law_572 rfl ?_
    refine et_lcmp d_Law_573 ?_
    refine et_if_eq (tgt := 579) d_Law_574 (by decide) (fun _ => ?_) (fun q => absurd (et_cmp0 g2) q)
    refine et_goto (tgt := 669) d_Law_579 (by decide) ?_
    refine et_weak et_w8 ?_
    exact hK _ _ _ _ (by omega) (by omega) hq
set_option maxHeartbeats 4000000 in
set_option maxRecDepth 100000 in
theorem law_cost {sc : et_X} {mc ms : Nat} {h : Nat → et_MC} {n nc ns i : Nat} {Nx : (Nat → et_MC) → Nat → Prop} (hi : i + 4 ≤ sc.2.1) (hL : sc.2.1 ≤ 2048) (hmc : nc + 1000 ≤ mc) (hms : ns + 10000 ≤ ms) (hk : et_op sc 13 (sc.2.2 (i + 1)) (sc.2.2 (i + 2)) (sc.2.2 (i + 3)) h n Nx) (hK : ∀ (h' : Nat → et_MC) (n' nc' ns' : Nat), nc' ≤ nc + 1000 → ns' ≤ ns + 10000 → Nx h' n' → et_M sc Y_Law 900 mc ms et_one 669 [some (.retAddr sc.1), some (.ref 0), some (.ref 64), some (.ref 84), some (.int (nI i)), none, none, none] [] h' n' nc' ns') : et_M sc Y_Law 900 mc ms et_one 582 [some (.retAddr sc.1), some (.ref 0), some (.ref 64), some (.ref 84), some (.int (nI i)), none, none, none] [] h n nc ns := by
  obtain ⟨mcc, msc, Px, b1, b2, hx, hy⟩ := hk
  refine et_aload_n (i := 1) d_Law_582 rfl rfl ?_
  refine et_aload_n (i := 3) d_Law_583 rfl rfl ?_
  refine et_invS mS_L_cost (As := [_, _]) rfl d_Law_584 lk_L_104 len_L_cost (Nat.le_of_ble_eq_true rfl) hx (Nat.le_of_ble_eq_true rfl) (by omega) (by omega) (fun v h1 n1 hp => ?_) (fun y h1 n1 hp => by obtain ⟨w, e, _⟩ := hy _ _ _ hp; cases e)
  obtain ⟨k, e, ⟨fs1, f1⟩, Py, hz, hn⟩ := hy _ _ _ hp
  cases e
  refine et_istore (lv' := [_, _, _, _, _, _, _, _]) d_Law_587 (by decide) rfl rfl ?_
  refine et_aload_n (i := 2) d_Law_589 rfl rfl ?_
  refine et_invV mV_M_cost (As := []) rfl d_Law_590 lk_L_106 len_M_cost f1 rfl (Nat.le_of_ble_eq_true rfl) hz (Nat.le_of_ble_eq_true rfl) (by omega) (by omega) (fun v h2 n2 hp2 => ?_) (fun y h2 n2 hp2 => by obtain ⟨v, e, _⟩ := hn _ _ _ hp2; cases e)
  obtain ⟨v2, e, ⟨fs2, f2⟩, han, hq⟩ := hn _ _ _ hp2
  cases e
  obtain ⟨b, hb, hout⟩ := han
  subst hb
  refine et_lstore (lv' := [_, _, _, _, _, _, _, _]) d_Law_593 (by decide) rfl rfl ?_
  refine et_aload_n (i := 2) d_Law_595 rfl rfl ?_
  refine et_invV mV_M_thrown (As := []) rfl d_Law_596 lk_L_73 len_M_thrown f2 rfl (Nat.le_of_ble_eq_true rfl) (c_M_thrown (d := 899) f2) (Nat.le_of_ble_eq_true rfl) (by omega) (by omega) (fun v h3 n3 hp3 => ?_) (fun y h3 n3 hp3 => by cases hp3.1)
  obtain ⟨e, rfl, rfl⟩ := hp3
  cases e
  refine et_iload d_Law_599 rfl ?_
  refine et_icmp_eq (tgt := 606) d_Law_601 (by decide) (fun _ => ?_) (fun q => absurd rfl q)
  refine et_iload d_Law_606 rfl ?_
  refine et_if_ne (tgt := 622) d_Law_608 (by decide) (fun q0 => ?_) (fun q0 => ?_)
  · refine et_goto (tgt := 669) d_Law_622 (by decide) ?_
    refine et_weak et_w8 ?_
    exact hK _ _ _ _ (by omega) (by omega) hq
  · obtain ⟨g, g1, g2⟩ := hout q0
    refine et_aload_n (i := 3) d_Law_611 rfl rfl ?_
    refine et_iconst (v := 0) d_Law_612 (by decide) ?_
    refine et_lald d_Law_613 g1 (vp_in_nI (show 0 < 1 by decide) (by decide)) ?_
    refine et_lload d_Law_614 rfl ?_
    refine et_lcmp d_Law_616 ?_
    refine et_if_eq (tgt := 622) d_Law_617 (by decide) (fun _ => ?_) (fun q => absurd (et_cmp0 g2) q)
    refine et_goto (tgt := 669) d_Law_622 (by decide) ?_
    refine et_weak et_w8 ?_
    exact hK _ _ _ _ (by omega) (by omega) hq
set_option maxHeartbeats 4000000 in
set_option maxRecDepth 100000 in
theorem law_best {sc : et_X} {mc ms : Nat} {h : Nat → et_MC} {n nc ns i : Nat} {Nx : (Nat → et_MC) → Nat → Prop} (hi : i + 4 ≤ sc.2.1) (hL : sc.2.1 ≤ 2048) (hmc : nc + 1000 ≤ mc) (hms : ns + 10000 ≤ ms) (hk : et_op sc 14 (sc.2.2 (i + 1)) (sc.2.2 (i + 2)) (sc.2.2 (i + 3)) h n Nx) (hK : ∀ (h' : Nat → et_MC) (n' nc' ns' : Nat), nc' ≤ nc + 1000 → ns' ≤ ns + 10000 → Nx h' n' → et_M sc Y_Law 900 mc ms et_one 669 [some (.retAddr sc.1), some (.ref 0), some (.ref 64), some (.ref 84), some (.int (nI i)), none, none, none] [] h' n' nc' ns') : et_M sc Y_Law 900 mc ms et_one 625 [some (.retAddr sc.1), some (.ref 0), some (.ref 64), some (.ref 84), some (.int (nI i)), none, none, none] [] h n nc ns := by
  obtain ⟨mcc, msc, Px, b1, b2, hx, hy⟩ := hk
  refine et_aload_n (i := 1) d_Law_625 rfl rfl ?_
  refine et_aload_n (i := 3) d_Law_626 rfl rfl ?_
  refine et_invS mS_L_best (As := [_, _]) rfl d_Law_627 lk_L_107 len_L_best (Nat.le_of_ble_eq_true rfl) hx (Nat.le_of_ble_eq_true rfl) (by omega) (by omega) (fun v h1 n1 hp => ?_) (fun y h1 n1 hp => by obtain ⟨w, e, _⟩ := hy _ _ _ hp; cases e)
  obtain ⟨k, e, ⟨fs1, f1⟩, Py, hz, hn⟩ := hy _ _ _ hp
  cases e
  refine et_istore (lv' := [_, _, _, _, _, _, _, _]) d_Law_630 (by decide) rfl rfl ?_
  refine et_aload_n (i := 2) d_Law_632 rfl rfl ?_
  refine et_invV mV_M_best (As := []) rfl d_Law_633 lk_L_109 len_M_best f1 rfl (Nat.le_of_ble_eq_true rfl) hz (Nat.le_of_ble_eq_true rfl) (by omega) (by omega) (fun v h2 n2 hp2 => ?_) (fun y h2 n2 hp2 => by obtain ⟨v, e, _⟩ := hn _ _ _ hp2; cases e)
  obtain ⟨v2, e, ⟨fs2, f2⟩, han, hq⟩ := hn _ _ _ hp2
  cases e
  obtain ⟨b, hb, hout⟩ := han
  subst hb
  refine et_istore (lv' := [_, _, _, _, _, _, _, _]) d_Law_636 (by decide) rfl rfl ?_
  refine et_aload_n (i := 2) d_Law_638 rfl rfl ?_
  refine et_invV mV_M_thrown (As := []) rfl d_Law_639 lk_L_73 len_M_thrown f2 rfl (Nat.le_of_ble_eq_true rfl) (c_M_thrown (d := 899) f2) (Nat.le_of_ble_eq_true rfl) (by omega) (by omega) (fun v h3 n3 hp3 => ?_) (fun y h3 n3 hp3 => by cases hp3.1)
  obtain ⟨e, rfl, rfl⟩ := hp3
  cases e
  refine et_iload d_Law_642 rfl ?_
  refine et_icmp_eq (tgt := 649) d_Law_644 (by decide) (fun _ => ?_) (fun q => absurd rfl q)
  refine et_iload d_Law_649 rfl ?_
  refine et_if_ne (tgt := 666) d_Law_651 (by decide) (fun q0 => ?_) (fun q0 => ?_)
  · refine et_goto (tgt := 669) d_Law_666 (by decide) ?_
    refine et_weak et_w8 ?_
    exact hK _ _ _ _ (by omega) (by omega) hq
  · obtain ⟨g, g1, g2⟩ := hout q0
    refine et_aload_n (i := 3) d_Law_654 rfl rfl ?_
    refine et_iconst (v := 0) d_Law_655 (by decide) ?_
    refine et_lald d_Law_656 g1 (vp_in_nI (show 0 < 1 by decide) (by decide)) ?_
    refine et_iload d_Law_657 rfl ?_
    refine et_i2l d_Law_659 rfl ?_
    refine et_lcmp d_Law_660 ?_
    refine et_if_eq (tgt := 666) d_Law_661 (by decide) (fun _ => ?_) (fun q => absurd (et_cmp0 g2) q)
    refine et_goto (tgt := 669) d_Law_666 (by decide) ?_
    refine et_weak et_w8 ?_
    exact hK _ _ _ _ (by omega) (by omega) hq
set_option maxHeartbeats 4000000 in
set_option maxRecDepth 100000 in
theorem law_iter {sc : et_X} {mc ms : Nat} {h : Nat → et_MC} {n nc ns i : Nat} {Nx : (Nat → et_MC) → Nat → Prop} (hi : i + 4 ≤ sc.2.1) (hL : sc.2.1 ≤ 2048) (hmc : nc + 1000 ≤ mc) (hms : ns + 10000 ≤ ms) (hk : ∀ k : Nat, k < 16 → sc.2.2 i &&& 15 = nI k → et_op sc k (sc.2.2 (i + 1)) (sc.2.2 (i + 2)) (sc.2.2 (i + 3)) h n Nx) (hK : ∀ (h' : Nat → et_MC) (n' nc' ns' : Nat), nc' ≤ nc + 1000 → ns' ≤ ns + 10000 → Nx h' n' → et_M sc Y_Law 900 mc ms et_one 669 [some (.retAddr sc.1), some (.ref 0), some (.ref 64), some (.ref 84), some (.int (nI i)), none, none, none] [] h' n' nc' ns') : et_M sc Y_Law 900 mc ms et_one 32 [some (.retAddr sc.1), some (.ref 0), some (.ref 64), some (.ref 84), some (.int (nI i)), none, none, none] [] h n nc ns := by
  refine et_sload (i := 0) d_Law_32 rfl rfl ?_
  refine et_iload d_Law_33 rfl ?_
  refine et_sld d_Law_35 (vp_in_nI (show i < sc.2.1 by omega) (by omega)) ?_
  rw [nI_clamp (by omega)]
  refine et_bipush (v := 15) d_Law_36 (by decide) ?_
  refine et_iand d_Law_38 ?_
  obtain ⟨k, hk16, hke⟩ := et_and15 (sc.2.2 i)
  have ho := hk k hk16 hke
  rw [hke]
  match k, hk16, ho with
  | 0, _, ho => exact et_tableIn (tgt := 112) d_Law_39 (by decide) (by decide) (off := 73) rfl (by decide) (law_type hi hL hmc hms ho hK)
  | 1, _, ho => exact et_tableIn (tgt := 181) d_Law_39 (by decide) (by decide) (off := 142) rfl (by decide) (law_wipe hi hL hmc hms ho hK)
  | 2, _, ho => exact et_tableIn (tgt := 194) d_Law_39 (by decide) (by decide) (off := 155) rfl (by decide) (law_character hi hL hmc hms ho hK)
  | 3, _, ho => exact et_tableIn (tgt := 219) d_Law_39 (by decide) (by decide) (off := 180) rfl (by decide) (law_place hi hL hmc hms ho hK)
  | 4, _, ho => exact et_tableIn (tgt := 232) d_Law_39 (by decide) (by decide) (off := 193) rfl (by decide) (law_rule hi hL hmc hms ho hK)
  | 5, _, ho => exact et_tableIn (tgt := 276) d_Law_39 (by decide) (by decide) (off := 237) rfl (by decide) (law_add hi hL hmc hms ho hK)
  | 6, _, ho => exact et_tableIn (tgt := 320) d_Law_39 (by decide) (by decide) (off := 281) rfl (by decide) (law_unite hi hL hmc hms ho hK)
  | 7, _, ho => exact et_tableIn (tgt := 364) d_Law_39 (by decide) (by decide) (off := 325) rfl (by decide) (law_same hi hL hmc hms ho hK)
  | 8, _, ho => exact et_tableIn (tgt := 408) d_Law_39 (by decide) (by decide) (off := 369) rfl (by decide) (law_price hi hL hmc hms ho hK)
  | 9, _, ho => exact et_tableIn (tgt := 456) d_Law_39 (by decide) (by decide) (off := 417) rfl (by decide) (law_rounds hi hL hmc hms ho hK)
  | 10, _, ho => exact et_tableIn (tgt := 512) d_Law_39 (by decide) (by decide) (off := 473) rfl (by decide) (law_nodes hi hL hmc hms ho hK)
  | 11, _, ho => exact et_tableIn (tgt := 525) d_Law_39 (by decide) (by decide) (off := 486) rfl (by decide) (law_classes hi hL hmc hms ho hK)
  | 12, _, ho => exact et_tableIn (tgt := 538) d_Law_39 (by decide) (by decide) (off := 499) rfl (by decide) (law_members hi hL hmc hms ho hK)
  | 13, _, ho => exact et_tableIn (tgt := 582) d_Law_39 (by decide) (by decide) (off := 543) rfl (by decide) (law_cost hi hL hmc hms ho hK)
  | 14, _, ho => exact et_tableIn (tgt := 625) d_Law_39 (by decide) (by decide) (off := 586) rfl (by decide) (law_best hi hL hmc hms ho hK)
  | 15, _, ho => exact et_tableOut (tgt := 669) d_Law_39 (by decide) (by decide) (hK _ _ _ _ (by omega) (by omega) ho)
  | j + 16, hj, _ => exact absurd hj (by omega)
theorem et_E0.same {h h' : Nat → et_MC} (e : ∀ k, k < 64 → h' k = h k) (H : et_E0 h) : et_E0 h' := by
  have e40 : ∀ i, i < 40 → h' (22 + i) = h (22 + i) := fun i hi => e _ (by omega)
  unfold et_E0 at H ⊢
  simp only [e 0 (by decide), e 1 (by decide), e 2 (by decide), e 3 (by decide), e 4 (by decide), e 5 (by decide), e 6 (by decide), e 7 (by decide), e 8 (by decide), e 9 (by decide), e 10 (by decide), e 11 (by decide), e 12 (by decide), e 13 (by decide), e 14 (by decide), e 15 (by decide), e 16 (by decide), e 17 (by decide), e 18 (by decide), e 19 (by decide), e 20 (by decide), e 21 (by decide), e 62 (by decide), e 63 (by decide)]
  obtain ⟨a1, a2, a3, a4, a5, a6, a7, ⟨b1, b2, b3, b4, b5, b6, b7⟩, a9⟩ := H
  exact ⟨a1, a2, a3, a4, a5, a6, a7, ⟨b1, b2, b3, b4, b5, fun i hi => (e40 i hi).trans (b6 i hi), b7⟩, a9⟩
theorem et_M0.same {h h' : Nat → et_MC} (e : ∀ k, 64 ≤ k → k < 84 → h' k = h k) (H : et_M0 h) : et_M0 h' := by
  unfold et_M0 at H ⊢
  simp only [e 64 (by decide) (by decide), e 65 (by decide) (by decide), e 66 (by decide) (by decide), e 67 (by decide) (by decide), e 68 (by decide) (by decide), e 69 (by decide) (by decide), e 70 (by decide) (by decide), e 71 (by decide) (by decide), e 72 (by decide) (by decide), e 73 (by decide) (by decide), e 74 (by decide) (by decide), e 75 (by decide) (by decide), e 76 (by decide) (by decide), e 77 (by decide) (by decide), e 78 (by decide) (by decide), e 79 (by decide) (by decide), e 80 (by decide) (by decide), e 81 (by decide) (by decide), e 82 (by decide) (by decide), e 83 (by decide) (by decide)]
  exact H
set_option maxHeartbeats 4000000 in
set_option maxRecDepth 100000 in
theorem law_start {sc : et_X} {mc ms : Nat} (hmc : 1000 ≤ mc) (hms : 100000 ≤ ms) (hK : ∀ h : Nat → et_MC, et_E0 h → et_M0 h → h 84 = .inl (1, 1, .inr (.inl (fun _ => 0))) → et_M sc Y_Law 900 mc ms et_one 23 [some (.retAddr sc.1), some (.ref 0), some (.ref 64), some (.ref 84), some (.int (nI 0)), none, none, none] [] h 85 85 15721) : et_M sc Y_Law 900 mc ms et_one 0 [some (.retAddr sc.1), none, none, none, none, none, none, none] [] (fun _ => et_void) 0 0 0 := by
  refine et_new (ci := 6) (fs := [.null, .null, .null, .null, .null, .null, .int 0]) (ty0 := ft_E) d_Law_0 rfl in_E ty_E cl_L_8 ins_E ini_E (fun B j hj => by rcases (show j = 0 ∨ j = 1 ∨ j = 2 ∨ j = 3 ∨ j = 4 ∨ j = 5 ∨ j = 6 by omega) with rfl | rfl | rfl | rfl | rfl | rfl | rfl <;> rfl) (by omega) (by omega) ?_
  refine et_dup d_Law_3 rfl ?_
  refine et_invI mI_E_init (As := []) rfl d_Law_4 lk_L_44 len_E_init (Nat.le_of_ble_eq_true rfl) (c_E_init (d := 800) rfl) (by decide) (by omega) (by omega) (fun v h1 n1 hp => ?_) (fun y h1 n1 hp => by cases hp.1)
  obtain ⟨e, rfl, hE⟩ := hp
  cases e
  refine et_astore_n (i := 1) (lv' := [_, _, _, _, _, _, _, _]) d_Law_7 rfl (by decide) rfl rfl ?_
  refine et_new (ci := 7) (fs := [.int 0, .null, .int 0, .int 0, .int 0, .int 0, .int 0, .int 0, .int 0, .null, .null, .int 0, .int 0, .null, .null, .null, .null, .null, .null, .int 0, .null, .int 0, .null, .null, .null, .null, .null, .null, .null, .null, .null, .long 0, .long 0]) (ty0 := ft_M) d_Law_8 rfl in_M ty_M cl_L_45 ins_M ini_M (fun B j hj => by rcases (show j = 0 ∨ j = 1 ∨ j = 2 ∨ j = 3 ∨ j = 4 ∨ j = 5 ∨ j = 6 ∨ j = 7 ∨ j = 8 ∨ j = 9 ∨ j = 10 ∨ j = 11 ∨ j = 12 ∨ j = 13 ∨ j = 14 ∨ j = 15 ∨ j = 16 ∨ j = 17 ∨ j = 18 ∨ j = 19 ∨ j = 20 ∨ j = 21 ∨ j = 22 ∨ j = 23 ∨ j = 24 ∨ j = 25 ∨ j = 26 ∨ j = 27 ∨ j = 28 ∨ j = 29 ∨ j = 30 ∨ j = 31 ∨ j = 32 by omega) with rfl | rfl | rfl | rfl | rfl | rfl | rfl | rfl | rfl | rfl | rfl | rfl | rfl | rfl | rfl | rfl | rfl | rfl | rfl | rfl | rfl | rfl | rfl | rfl | rfl | rfl | rfl | rfl | rfl | rfl | rfl | rfl | rfl <;> rfl) (by omega) (by omega) ?_
  refine et_dup d_Law_11 rfl ?_
  refine et_invI mI_M_init (As := []) rfl d_Law_12 lk_L_47 len_M_init (Nat.le_of_ble_eq_true rfl) (c_M_init (d := 800) rfl) (by decide) (by omega) (by omega) (fun v h2 n2 hp => ?_) (fun y h2 n2 hp => by cases hp.1)
  obtain ⟨e, rfl, hM, fr⟩ := hp
  cases e
  refine et_astore_n (i := 2) (lv' := [_, _, _, _, _, _, _, _]) d_Law_15 rfl (by decide) rfl rfl ?_
  refine et_iconst (v := 1) d_Law_16 (by decide) ?_
  refine et_newl (N := 1) d_Law_17 rfl ac_long (by decide) (by decide) (by decide) (by omega) (by omega) ?_
  refine et_astore_n (i := 3) (lv' := [_, _, _, _, _, _, _, _]) d_Law_19 rfl (by decide) rfl rfl ?_
  refine et_iconst (v := 0) d_Law_20 (by decide) ?_
  refine et_istore (lv' := [_, _, _, _, _, _, _, _]) d_Law_21 (by decide) rfl rfl ?_
  refine hK _ (et_E0.same (fun k hk => ?_) hE) (et_M0.same (fun k h1 h2 => ?_) hM) rfl
  · have e1 : k ≠ 84 := by omega
    have e2 : k ≠ 64 := by omega
    simp only [va_up, if_neg e1]
    rw [fr k hk]
    simp [va_up, e2]
  · have e1 : k ≠ 84 := by omega
    simp [va_up, e1]
end
section
/-! ===== the first call on a new object ===== -/
theorem et_0I : nI 0 = 0 := nI_0
theorem et_tP_a {sz : Nat} {f : Nat → Int32} {mid wp : Int32} {b : Int64} {x : Int32} {h h' : Nat → et_MC} {r : et_R} (hp : et_tP sz f mid wp b x h r h') : ((et_tok sz b x ∧ r = .inl (some (.int (nI sz + x)))) ∨ (¬ et_tok sz b x ∧ r = .inl (some (.int (-1))))) ∧ ∀ k, k ≠ 1 → k ≠ 2 → h' k = h k := by
  rcases hp with ⟨z1, z2, z3⟩ | ⟨N, g, z0, z1, z2, z3, -⟩
  · exact ⟨Or.inr ⟨z1, z2⟩, fun k e1 e2 => by rw [z3]⟩
  · exact ⟨Or.inl ⟨z1, by rw [z2, z0, nI_add]⟩, fun k e1 e2 => by rw [z3]; simp [va_up, e1, e2]⟩
theorem et_tM_a {sz : Nat} {f : Nat → Int32} {th a_ wr en al se ru nd cs un rs : Int32} {dc ds : Int64} {b : Int64} {x : Int32} {h h' : Nat → et_MC} {r : et_R} (hp : et_tM sz f th a_ wr en al se ru nd cs un rs dc ds b x h r h') : (et_tok sz b x ∧ r = .inl (some (.int (nI sz + x)))) ∨ (¬ et_tok sz b x ∧ r = .inl (some (.int (-1)))) := by
  rcases hp with ⟨z1, z2, z3⟩ | ⟨N, g, z0, z1, z2, z3, -⟩
  · exact Or.inr ⟨z1, z2⟩
  · exact Or.inl ⟨z1, by rw [z2, z0, nI_add]⟩
def et_T2 : (Nat → et_MC) → Nat → Prop := fun _ _ => True
set_option maxHeartbeats 4000000 in
set_option maxRecDepth 100000 in
theorem fresh_op {sc : et_X} {h : Nat → et_MC} (hE : et_E0 h) (hM : et_M0 h) (ho : h 84 = .inl (1, 1, .inr (.inl (fun _ => 0)))) (a1 a2 a3 : Int32) (k : Nat) : et_op sc k a1 a2 a3 h 85 et_T2 := by
  obtain ⟨f0, f1, f2, f3, -, -, ⟨f13, -, -, f16⟩, ⟨f17, ⟨gp, f18, -⟩, -⟩, -⟩ := hE
  have hM' := hM
  obtain ⟨m64, m65, -, -, -, -, -, -, -, -, -, -, m76, m77, m78, -, -, -, -, gq, m79, -⟩ := hM
  match k with
  | 0 =>
    refine ⟨0, 0, _, by decide, by decide, ⟨_, f0⟩, c_E_type (d := 897) (sz := 0) (et_arg a1 a2) a3 f0 (by decide) f1 f2, fun r h1 n1 hp => ?_⟩
    obtain ⟨hn, hp⟩ := hp
    obtain ⟨hr, fr⟩ := et_tP_a hp
    rcases hr with ⟨ht, hr⟩ | ⟨ht, hr⟩
    · refine ⟨_, hr, ⟨_, (fr 64 (by decide) (by decide)).trans m64⟩, _, c_M_type (d := 898) (sz := 0) (et_arg a1 a2) a3 (by decide) ((fr 64 (by decide) (by decide)).trans m64) ((fr 65 (by decide) (by decide)).trans m65), fun r2 h2 n2 hp2 => ?_⟩
      rcases et_tM_a hp2.2 with ⟨ht2, hr2⟩ | ⟨ht2, hr2⟩
      · exact ⟨hr2, trivial⟩
      · exact absurd ht ht2
    · refine ⟨_, hr, ⟨_, (fr 64 (by decide) (by decide)).trans m64⟩, _, c_M_type (d := 898) (sz := 0) (et_arg a1 a2) a3 (by decide) ((fr 64 (by decide) (by decide)).trans m64) ((fr 65 (by decide) (by decide)).trans m65), fun r2 h2 n2 hp2 => ?_⟩
      rcases et_tM_a hp2.2 with ⟨ht2, hr2⟩ | ⟨ht2, hr2⟩
      · exact absurd ht2 ht
      · exact ⟨hr2, trivial⟩
  | 1 =>
    refine ⟨0, 0, _, by decide, by decide, ⟨_, f0⟩, c_E_wipe (d := 898) f0 f1, fun r h1 n1 hp => ?_⟩
    obtain ⟨hr, hn, rfl⟩ := hp
    refine ⟨_, hr, ⟨_, m64⟩, _, c_M_wipe (d := 899) m64, fun r2 h2 n2 hp2 => ⟨hp2.1, trivial⟩⟩
  | 2 =>
    refine ⟨0, 0, _, by decide, by decide, ⟨_, f0⟩, c_E_character (d := 899) (sz := 0) f0 (by decide) f1 f2, fun r h1 n1 hp => ?_⟩
    obtain ⟨hr, hn, rfl⟩ := hp
    exact ⟨_, hr, ⟨_, m64⟩, _, c_M_character (d := 898) (sz := 0) a1 (by decide) m64 m65, fun r2 h2 n2 hp2 => ⟨hp2.1, trivial⟩⟩
  | 3 =>
    refine ⟨0, 0, _, by decide, by decide, ⟨_, f0⟩, c_E_place (d := 899) f0 f1, fun r h1 n1 hp => ?_⟩
    obtain ⟨hr, hn, rfl⟩ := hp
    exact ⟨_, hr, ⟨_, m64⟩, _, c_M_place (d := 899) m64, fun r2 h2 n2 hp2 => ⟨hp2.1, trivial⟩⟩
  | 4 =>
    refine ⟨1, 6, _, by decide, by decide, c_L_rule (c0_E_rule (d := 896) f0 f1) f0 (fun r h' n' hp => Or.inr (Or.inl hp.1)), fun r h1 n1 hp => ?_⟩
    rcases hp with ⟨w, h0, hp, -⟩ | ⟨kk, hp, hr⟩
    · cases hp.1
    · obtain ⟨e, hn, fr⟩ := hp
      cases e
      have g64 := (fr 64 (by decide) (by decide)).trans m64
      refine ⟨_, hr, ⟨_, g64⟩, _, c0_M_rule (d := 896) g64, fun r2 h2 n2 hp2 => ?_⟩
      obtain ⟨e2, -, e3, -⟩ := hp2
      exact ⟨_, e2, ⟨_, e3⟩, ⟨_, rfl, fun z => absurd z (by decide)⟩, trivial⟩
  | 5 =>
    refine ⟨1, 6, _, by decide, by decide, c_L_add (c0_E_add (d := 895) f0 f1) f0 (fun r h' n' hp => Or.inr (Or.inl hp.1)), fun r h1 n1 hp => ?_⟩
    rcases hp with ⟨w, h0, hp, -⟩ | ⟨kk, hp, hr⟩
    · cases hp.1
    · obtain ⟨e, hn, fr⟩ := hp
      cases e
      have g64 := (fr 64 (by decide) (by decide)).trans m64
      refine ⟨_, hr, ⟨_, g64⟩, _, c0_M_add (d := 896) g64, fun r2 h2 n2 hp2 => ?_⟩
      obtain ⟨e2, -, e3, -⟩ := hp2
      exact ⟨_, e2, ⟨_, e3⟩, ⟨_, rfl, fun z => absurd z (by decide)⟩, trivial⟩
  | 6 =>
    refine ⟨1, 6, _, by decide, by decide, c_L_unite (c0_E_unite (d := 895) f0 f1) f0 (fun r h' n' hp => Or.inr (Or.inl hp.1)), fun r h1 n1 hp => ?_⟩
    rcases hp with ⟨w, h0, hp, -⟩ | ⟨kk, hp, hr⟩
    · cases hp.1
    · obtain ⟨e, hn, fr⟩ := hp
      cases e
      have g64 := (fr 64 (by decide) (by decide)).trans m64
      refine ⟨_, hr, ⟨_, g64⟩, _, c0_M_unite (d := 896) g64, fun r2 h2 n2 hp2 => ?_⟩
      obtain ⟨e2, -, e3, -⟩ := hp2
      exact ⟨_, e2, ⟨_, e3⟩, ⟨_, rfl, fun z => absurd z (by decide)⟩, trivial⟩
  | 7 =>
    refine ⟨1, 6, _, by decide, by decide, c_L_same (c0_E_same (d := 895) f0 f1) f0 (fun r h' n' hp => Or.inr (Or.inl hp.1)), fun r h1 n1 hp => ?_⟩
    rcases hp with ⟨w, h0, hp, -⟩ | ⟨kk, hp, hr⟩
    · cases hp.1
    · obtain ⟨e, hn, fr⟩ := hp
      cases e
      have g64 := (fr 64 (by decide) (by decide)).trans m64
      refine ⟨_, hr, ⟨_, g64⟩, _, c0_M_same (d := 896) g64, fun r2 h2 n2 hp2 => ?_⟩
      obtain ⟨e2, -, e3, -⟩ := hp2
      exact ⟨_, e2, ⟨_, e3⟩, ⟨_, rfl, fun z => absurd z (by decide)⟩, trivial⟩
  | 8 =>
    refine ⟨1, 6, _, by decide, by decide, c_L_price a1 a2 (c_E_price (d := 897) a1 a2 f0 f17 f18) f0 (fun r h' n' hp => by rcases hp with ⟨-, e, -⟩ | ⟨-, e, -⟩; exact Or.inr e; exact Or.inl e), fun r h1 n1 hp => ?_⟩
    rcases hp with ⟨hp, hr⟩ | ⟨kk, hp, hr⟩
    · rcases hp with ⟨-, e, -⟩ | ⟨hc, -, -, rfl⟩
      · cases e
      · refine ⟨_, hr, ⟨_, m64⟩, _, c_M_price (d := 897) a1 a2 m64 m79, fun r2 h2 n2 hp2 => ?_⟩
        obtain ⟨e2, -, ⟨hc2, -⟩ | ⟨-, rfl⟩⟩ := hp2
        · exact absurd hc hc2
        · exact ⟨_, e2, ⟨_, rfl⟩, rfl, trivial⟩
    · rcases hp with ⟨hc, e, -, rfl⟩ | ⟨-, e, -⟩
      · cases e
        refine ⟨_, hr, ⟨_, m64⟩, _, c_M_price (d := 897) a1 a2 m64 m79, fun r2 h2 n2 hp2 => ?_⟩
        obtain ⟨e2, -, ⟨-, rfl⟩ | ⟨hc2, -⟩⟩ := hp2
        · exact ⟨_, e2, ⟨_, rfl⟩, rfl, trivial⟩
        · exact absurd hc2 hc
      · cases e
  | 9 =>
    refine ⟨1, 6, _, by decide, by decide, c_L_rounds a1 (c0_E_rounds (d := 896) a1 f0 f3 f13 f16) f0 (fun r h' n' hp => by rcases hp with ⟨-, e, -⟩ | ⟨-, e, -, fr⟩; exact Or.inr (Or.inl e); exact Or.inl ⟨_, _, e, (fr 84 (by decide) (by decide)).trans ho⟩), fun r h1 n1 hp => ?_⟩
    rcases hp with ⟨w, h0, hp, hr, fr0, g, hg, hg0⟩ | ⟨kk, hp, hr⟩
    · rcases hp with ⟨-, e, -⟩ | ⟨hc, e, -, fr⟩
      · cases e
      · cases e
        have fr' : ∀ k, k ≠ 84 → k ≠ 13 → k ≠ 16 → h1 k = h k := fun k e1 e2 e3 => (fr0 k e1).trans (fr k e2 e3)
        refine ⟨_, hr, ⟨_, (fr' 64 (by decide) (by decide) (by decide)).trans m64⟩, _, c0_M_rounds (d := 896) a1 ((fr' 64 (by decide) (by decide) (by decide)).trans m64) ((fr' 76 (by decide) (by decide) (by decide)).trans m76) ((fr' 77 (by decide) (by decide) (by decide)).trans m77) ((fr' 78 (by decide) (by decide) (by decide)).trans m78), fun r2 h2 n2 hp2 => ?_⟩
        obtain ⟨e2, -, ⟨fs, e3⟩, fr2⟩ := hp2
        rw [if_pos hc] at e3
        exact ⟨_, e2, ⟨_, e3⟩, ⟨_, rfl, fun _ => ⟨g, (fr2 84 (by decide) (by decide) (by decide) (by decide)).trans hg, hg0⟩⟩, trivial⟩
    · rcases hp with ⟨hc, e, -, rfl⟩ | ⟨-, e, -⟩
      · cases e
        refine ⟨_, hr, ⟨_, m64⟩, _, c0_M_rounds (d := 896) a1 m64 m76 m77 m78, fun r2 h2 n2 hp2 => ?_⟩
        obtain ⟨e2, -, ⟨fs, e3⟩, fr2⟩ := hp2
        rw [if_neg hc] at e3
        exact ⟨_, e2, ⟨_, e3⟩, ⟨_, rfl, fun z => absurd z (by decide)⟩, trivial⟩
      · cases e
  | 10 =>
    refine ⟨0, 0, _, by decide, by decide, ⟨_, f0⟩, c_E_nodes (d := 899) f0 f3, fun r h1 n1 hp => ?_⟩
    obtain ⟨hr, hn, rfl⟩ := hp
    exact ⟨_, hr, ⟨_, m64⟩, _, c_M_nodes (d := 899) m64, fun r2 h2 n2 hp2 => ⟨hp2.1, trivial⟩⟩
  | 11 =>
    refine ⟨0, 0, _, by decide, by decide, ⟨_, f0⟩, c_E_classes (d := 899) f0 f3, fun r h1 n1 hp => ?_⟩
    obtain ⟨hr, hn, rfl⟩ := hp
    exact ⟨_, hr, ⟨_, m64⟩, _, c_M_classes (d := 899) m64, fun r2 h2 n2 hp2 => ⟨hp2.1, trivial⟩⟩
  | 12 =>
    refine ⟨1, 6, _, by decide, by decide, c_L_members (c0_E_members (d := 894) f0 f1) f0 (fun r h' n' hp => Or.inr (Or.inl hp.1)), fun r h1 n1 hp => ?_⟩
    rcases hp with ⟨w, h0, hp, -⟩ | ⟨kk, hp, hr⟩
    · cases hp.1
    · obtain ⟨e, hn, fr⟩ := hp
      cases e
      have g64 := (fr 64 (by decide) (by decide)).trans m64
      refine ⟨_, hr, ⟨_, g64⟩, _, c0_M_members (d := 895) g64, fun r2 h2 n2 hp2 => ?_⟩
      obtain ⟨e2, -, e3, -⟩ := hp2
      exact ⟨_, e2, ⟨_, e3⟩, ⟨_, rfl, fun z => absurd z (by decide)⟩, trivial⟩
  | 13 =>
    refine ⟨1, 6, _, by decide, by decide, c_L_cost (c0_E_cost (d := 894) f0 f1) f0 (fun r h' n' hp => Or.inr hp.1), fun r h1 n1 hp => ?_⟩
    rcases hp with ⟨w, h0, hp, -⟩ | ⟨kk, hp, hr⟩
    · cases hp.1
    · obtain ⟨e, hn, fr⟩ := hp
      cases e
      have g64 := (fr 64 (by decide) (by decide)).trans m64
      refine ⟨_, hr, ⟨_, g64⟩, _, c0_M_cost (d := 895) g64, fun r2 h2 n2 hp2 => ?_⟩
      obtain ⟨e2, -, e3, -⟩ := hp2
      exact ⟨_, e2, ⟨_, e3⟩, ⟨_, rfl, fun z => absurd z (by decide)⟩, trivial⟩
  | 14 =>
    refine ⟨1, 6, _, by decide, by decide, c_L_best (c0_E_best (d := 894) f0 f1) f0 (fun r h' n' hp => Or.inr (Or.inl hp.1)), fun r h1 n1 hp => ?_⟩
    rcases hp with ⟨w, h0, hp, -⟩ | ⟨kk, hp, hr⟩
    · cases hp.1
    · obtain ⟨e, hn, fr⟩ := hp
      cases e
      have g64 := (fr 64 (by decide) (by decide)).trans m64
      refine ⟨_, hr, ⟨_, g64⟩, _, c0_M_best (d := 895) g64, fun r2 h2 n2 hp2 => ?_⟩
      obtain ⟨e2, -, e3, -⟩ := hp2
      exact ⟨_, e2, ⟨_, e3⟩, ⟨_, rfl, fun z => absurd z (by decide)⟩, trivial⟩
  | _ + 15 => exact trivial
/-- the length of the script less four -/
theorem et_len4 {L i : Nat} (hL : L ≤ 2048) (hi : i ≤ 4096) : Int32.ofNat L - 4 < nI i ↔ L < i + 4 := by
  by_cases h4 : 4 ≤ L
  · have e : Int32.ofNat L - 4 = nI (L - 4) := by
      have h9 : nI L = nI (L - 4) + 4 := by
        rw [show (4 : Int32) = nI 4 from rfl, nI_add, Nat.sub_add_cancel h4]
      show nI L - 4 = _
      rw [h9]
      simp [Int32.sub_eq_add_neg, Int32.add_assoc]
    rw [e, nI_ltI (by omega) (by omega)]
    omega
  · have h5 : Int32.ofNat L - 4 < 0 := by
      rcases (show L = 0 ∨ L = 1 ∨ L = 2 ∨ L = 3 by omega) with rfl | rfl | rfl | rfl <;> decide
    have h6 : (0 : Int32) ≤ nI i := nI_pos' (by omega)
    constructor
    · intro _
      omega
    · intro _
      exact Int32.lt_of_lt_of_le h5 h6
set_option maxHeartbeats 4000000 in
set_option maxRecDepth 100000 in
theorem law_head {sc : et_X} {mc ms : Nat} {h : Nat → et_MC} {n nc ns i : Nat} (hL : sc.2.1 ≤ 2048) (hi : i ≤ 4096) (hmc : nc ≤ mc) (hms : ns ≤ ms) (hK : i + 4 ≤ sc.2.1 → et_M sc Y_Law 900 mc ms et_one 32 [some (.retAddr sc.1), some (.ref 0), some (.ref 64), some (.ref 84), some (.int (nI i)), none, none, none] [] h n nc ns) : et_M sc Y_Law 900 mc ms et_one 23 [some (.retAddr sc.1), some (.ref 0), some (.ref 64), some (.ref 84), some (.int (nI i)), none, none, none] [] h n nc ns := by
  refine et_iload d_Law_23 rfl ?_
  refine et_sload (i := 0) d_Law_25 rfl rfl ?_
  refine et_slen d_Law_26 ?_
  refine et_iconst (v := 4) d_Law_27 (by decide) ?_
  refine et_isub d_Law_28 ?_
  refine et_icmp_gt (tgt := 675) d_Law_29 (by decide) (fun _ => ?_) (fun q => hK (Nat.not_lt.mp fun z => q ((et_len4 hL hi).mpr z)))
  refine et_iconst (v := 1) d_Law_675 (by decide) ?_
  exact et_zret d_Law_676 rfl rfl hmc hms rfl
theorem law_next {sc : et_X} {mc ms : Nat} {h : Nat → et_MC} {n nc ns i : Nat} (hK : et_M sc Y_Law 900 mc ms et_one 23 [some (.retAddr sc.1), some (.ref 0), some (.ref 64), some (.ref 84), some (.int (nI (i + 4))), none, none, none] [] h n nc ns) : et_M sc Y_Law 900 mc ms et_one 669 [some (.retAddr sc.1), some (.ref 0), some (.ref 64), some (.ref 84), some (.int (nI i)), none, none, none] [] h n nc ns := by
  refine et_iinc (lv' := [_, _, _, _, _, _, _, _]) d_Law_669 rfl (v := nI (i + 4)) (nI_add i 4) (by decide) rfl rfl ?_
  exact et_goto (tgt := 23) d_Law_672 (by decide) hK
/-- the law on a script of at most four ints -/
theorem law_p1 {sc : et_X} {mc ms : Nat} (hL : sc.2.1 ≤ 4) (hmc : 3000 ≤ mc) (hms : 100000 ≤ ms) : et_M sc Y_Law 900 mc ms et_one 0 [some (.retAddr sc.1), none, none, none, none, none, none, none] [] (fun _ => et_void) 0 0 0 := by
  refine law_start (by omega) hms fun h hE hM ho => ?_
  refine law_head (by omega) (by omega) (by omega) (by omega) fun hi => ?_
  refine law_iter (Nx := et_T2) hi (by omega) (by omega) (by omega) (fun k _ _ => fresh_op hE hM ho _ _ _ k) fun h' n' nc' ns' b1 b2 _ => ?_
  refine law_next (law_head (by omega) (by omega) (by omega) (by omega) fun hi2 => absurd hi2 (by omega))
end
section
/-! ===== from the claim's start to the small machine ===== -/
theorem et_tb {w : Cond} (h : w ∈ et_W) : w ∈ lw_tbl := (List.mem_filter.mp h).1
theorem et_NST_on {w : Cond} (h : et_isN w = true) : w.onTables = true := by
  cases w <;> first | rfl | cases h
theorem et_arrC {args : Array Value} {s : State} {ty : FieldType} (h : (Cond.arrayClass ty).before args s = true) : ∃ cA : ClassId, ArrOfT s cA ty ∧ s.vm.findClass ("[" ++ ty.toString) = some cA := by
  obtain ⟨cA, kA, comp, h1, h2, h3⟩ := Cond.arrayClass_spec h
  exact ⟨cA, fun n z => ⟨(fun k h => by cases h), kA, h2, comp, h3⟩, h1⟩
theorem et_arrO {args : Array Value} {s : State} {C : String} (h : (Cond.arrayOver (.object C)).before args s = true) : ∃ cA : ClassId, ArrOfT s cA (.object C) ∧ va_RA s cA (.object C) := by
  obtain ⟨comp, c, k, h1, -, h2, h3, h4⟩ := Cond.arrayOver_spec h
  exact ⟨c, fun n z => ⟨(fun k h => by cases h), k, h2, comp, h3⟩, k, comp, h2, h3, h1, h4⟩
theorem et_arrA {args : Array Value} {s : State} (h : (Cond.arrayOver (.array .int)).before args s = true) {cI : ClassId} (hI : s.vm.findClass "[I" = some cI) : ∃ (cA : ClassId) (kA : Class), s.vm.classes[cA]? = some kA ∧ kA.kind = .array cI (.array .int) ∧ s.vm.findClass ("[" ++ (FieldType.array .int).toString) = some cA := by
  have hI' : s.vm.findClass (FieldType.array .int).toString = some cI := hI
  simp only [Cond.before, Cond.holds, Cond.value, beq_iff_eq, hI', Option.bind_some, Option.bind_eq_some_iff, Option.map_eq_some_iff] at h
  obtain ⟨c, hi, k, hk, hb⟩ := h
  obtain ⟨hlt, hp, -⟩ := Array.findIdx?_eq_some_iff_getElem.mp hi
  have hkk : s.vm.classes[c] = k := (Array.getElem?_eq_some_iff.mp hk).2
  rw [hkk] at hp
  cases hkind : k.kind with
  | array component ty =>
    rw [hkind] at hb hp
    simp at hb hp
    exact ⟨c, k, hk, by rw [hkind, hp, hb.1], hb.2⟩
  | _ => rw [hkind] at hb; simp at hb
theorem et_stF.of {args : Array Value} {s : State} {nm d : String} (h1 : (Cond.laysStatic "java/lang/Throwable" nm d).before args s = true) (h2 : (Cond.isRef (.static "java/lang/Throwable" nm d)).before args s = true) : et_stF s.heap.size s nm d := by
  obtain ⟨c, k, i, f, a, cell, g1, g2, g3, g4, g5, g6, g7, g8, g9⟩ := Cond.laysStatic_spec h1
  have hv : cell.slots[f.slot]? = some cell.slots[f.slot] := Array.getElem?_eq_getElem g8
  refine ⟨c, k, i, f, a, cell, cell.slots[f.slot], g1, g2, g3, g4, (Array.getElem?_eq_some_iff.mp g5).1, g5, g6, g7, g8, g9, hv, ?_⟩
  have he : (Term.static "java/lang/Throwable" nm d).eval args s none [] s = some cell.slots[f.slot] := by
    simp [Term.eval, State.fieldNamed?, g2, g3, g4, g5, g6, hv]
  simp only [Cond.before, Cond.holds, Cond.value, he] at h2
  cases hc : cell.slots[f.slot] <;> rw [hc] at h2 <;> first | rfl | simp at h2
theorem et_str {args : Array Value} {s : State} {own tx : String} {k : Nat} (h : (Cond.stringRef own k tx).before args s = true) : ∃ a : Nat, vk_R own k tx a s := by
  have h1 : (Cond.stringRef own k tx).before #[] s = true := h
  simp only [Cond.before, Cond.holds, Cond.value, beq_iff_eq, Option.map_eq_some_iff] at h
  obtain ⟨c, hc, hb⟩ := h
  simp only [Bool.and_eq_true] at hb
  obtain ⟨-, hb⟩ := hb
  cases hr : s.resolvedAt? own k with
  | none => rw [hr] at hb; cases hb
  | some r =>
    rw [hr] at hb
    cases r with
    | string a =>
      refine ⟨a, vk_R.of (A := #[]) h1 ?_⟩
      simp only [State.resolvedAt?, Option.bind_eq_bind, Option.bind_eq_some_iff] at hr
      obtain ⟨c2, hc2, kk, hkk, hj⟩ := hr
      simp [Term.eval, hc2, hkk, hj]
    | _ => cases hb
def et_sel {α : Type} (a0 a1 a2 a3 a4 a5 a6 a7 : α) (c : Nat) : α := match c with
  | 0 => a0 | 1 => a1 | 2 => a2 | 3 => a3 | 4 => a4 | 5 => a5 | 6 => a6 | _ => a7
theorem et_world {args : Array Value} {s : State} {b L : Nat} {xs : Nat → Int32} (hts : ∀ w ∈ lw_tbl, w.before args s = true) (hgv : (Jvm.Cond.and given_1 narrow_1).before args s = true) (hX : va_X b L xs s s.heap) (hb : b < s.heap.size) : ∃ (D : va_G) (dA : Nat → ClassId), et_Wd (b, L, xs) s.heap.size D dA s := by
  have hq := flat_of_before _ hgv
  obtain ⟨cC, iC, uC⟩ := u_known (C := "EqualTerms$Cheapest") (T := F_C) (N := 6) hts (fun w hw => et_tb (in_C w hw)) (hts _ (et_tb ins_C))
  obtain ⟨cG, iG, uG⟩ := u_known (C := "EqualTerms$Graph") (T := F_G) (N := 8) hts (fun w hw => et_tb (in_G w hw)) (hts _ (et_tb ins_G))
  obtain ⟨cR, iR, uR⟩ := u_known (C := "EqualTerms$Round") (T := F_R) (N := 6) hts (fun w hw => et_tb (in_R w hw)) (hts _ (et_tb ins_R))
  obtain ⟨cU, iU, uU⟩ := u_known (C := "EqualTerms$Rule") (T := F_U) (N := 4) hts (fun w hw => et_tb (in_U w hw)) (hts _ (et_tb ins_U))
  obtain ⟨cT, iT, uT⟩ := u_known (C := "EqualTerms$Text") (T := F_T) (N := 4) hts (fun w hw => et_tb (in_T w hw)) (hts _ (et_tb ins_T))
  obtain ⟨cK, iK, uK⟩ := u_known (C := "EqualTerms$Walk") (T := F_K) (N := 3) hts (fun w hw => et_tb (in_K w hw)) (hts _ (et_tb ins_K))
  obtain ⟨cE, iE, uE⟩ := u_known (C := "EqualTerms") (T := F_E) (N := 7) hts (fun w hw => et_tb (in_E w hw)) (hts _ (et_tb ins_E))
  obtain ⟨cM, iM, uM⟩ := u_known (C := "EqualTermsModel") (T := F_M) (N := 33) hts (fun w hw => et_tb (in_M w hw)) (hts _ (et_tb ins_M))
  obtain ⟨aI, aI1, aI2⟩ := et_arrC (hts _ (et_tb ac_int))
  obtain ⟨aJ, aJ1, aJ2⟩ := et_arrC (hts _ (et_tb ac_long))
  obtain ⟨aZ, aZ1, aZ2⟩ := et_arrC (hts _ (et_tb ac_boolean))
  have hoR : (Cond.arrayOver (.object "EqualTerms$Rule")).before args s = true := hts _ (by decide +kernel)
  obtain ⟨aR, aR1, aR2⟩ := et_arrO hoR
  obtain ⟨aA, kA, aA1, aA2, aA3⟩ := et_arrA (hts _ (by decide +kernel)) (cI := aI) aI2
  refine ⟨(et_sel cC cG cR cU cT cK cE cM, et_sel iC iG iR iU iT iK iE iM), et_sel aI aJ aZ aR aA aA aA aA, ⟨fun c q hc => ?_, fun k q hk => ?_⟩, fun w hw => va_Nw.of (et_NST_on (et_NST_ok w hw)) (hts w (et_NST_in w hw)), ⟨et_stF.of (hts _ (by decide +kernel)) (hq _ (by decide +kernel)), et_stF.of (hts _ (by decide +kernel)) (hq _ (by decide +kernel))⟩, fun q hq => et_str (hts _ (et_STR_in q hq)), fun C hC => ?_, hX, hb, ⟨kA, aA1, aA2⟩, va_Nc.of (args := args) (hq _ (by decide +kernel))⟩
  · match c, hc with
    | 0, hc => cases hc; exact uC
    | 1, hc => cases hc; exact uG
    | 2, hc => cases hc; exact uR
    | 3, hc => cases hc; exact uU
    | 4, hc => cases hc; exact uT
    | 5, hc => cases hc; exact uK
    | 6, hc => cases hc; exact uE
    | 7, hc => cases hc; exact uM
    | j + 8, hc => cases hc
  · match k, hk with
    | 0, hk => cases hk; exact ⟨aI1, aI2⟩
    | 1, hk => cases hk; exact ⟨aJ1, aJ2⟩
    | 2, hk => cases hk; exact ⟨aZ1, aZ2⟩
    | 3, hk => cases hk; exact ⟨aR1, aR2⟩
    | 4, hk => cases hk; exact ⟨fun n z => ⟨(fun k h => by cases h), kA, aA1, aI, aA2⟩, aA3⟩
    | j + 5, hk => cases hk
  · obtain rfl : C = "EqualTerms$Rule" := by simpa [et_AOS] using hC
    exact va_AO.of hoR
/-- a wider room serves where a narrower one does -/
theorem et_wide {p : Program} {l : Launch} {e : Env} {R R' : Room} {s : State} {m : MethodId} {args : Array Value} {below : List Frame} {meth : Method} {c : Code} {H : Heap} {locs : List Loc} {cells slots : Nat} {Q : State → Prop} {g : JFrame} (h1 : R'.frames ≤ R.frames) (h2 : R'.locals ≤ R.locals) (h3 : R'.cells ≤ R.cells) (h4 : R'.slots ≤ R.slots)
    (k : W p l e R' s m args below meth c H locs cells slots Q g) : W p l e R s m args below meth c H locs cells slots Q g := fun T hT X => k T hT
  ⟨X.admits, X.cas, X.clock, X.frames, by
    have hr := X.room
    simp only [State.hasRoom, Bool.and_eq_true, decide_eq_true_eq] at hr ⊢
    obtain ⟨⟨⟨⟨a1, a2, a3, a4, a5, a6⟩, a7⟩, a8⟩, a9⟩ := hr
    exact ⟨⟨⟨⟨by omega, by omega, by omega, by omega, by omega, a6⟩, by omega⟩, by omega⟩, a9⟩, X.hears, X.method, X.code, X.here, X.tail, X.warmed, X.limits, X.bytes, X.same⟩
theorem et_flag {l : Launch} (h : l.flags = flags0) : et_L l := fun e he => by
  rw [he.platform]
  show l.stackTraces = false
  unfold Launch.stackTraces
  rw [h]
  decide +kernel
theorem et_void_HP {D : va_G} {dA : Nat → ClassId} {H : Heap} : et_HP D dA H.size (fun _ => et_void) 0 H := ⟨rfl, fun _ => Or.inl rfl⟩
end
section
/-! THE CLAIM OUT OF ONE WALK OF THE LAW'S BODY. Your part is whole_start (and what it stands on); all else here is the same for every law, but numbers. -/
def R_law : String := "EqualTermsLaw"
def lw_P (b : Addr) (xs : List Int32) (args : Array Value) (s : State) : Prop := args = #[.ref b] ∧ s.IntsAt b xs ∧ xs.length ≤ 4 ∧ (Jvm.Cond.and given_1 narrow_1).before args s = true
def lw_Q (_ : Array Value) (s : State) (o : Outcome) (t : State) : Prop := o = .returned (some (.int 1)) ∧ Framed s o t [] 600002 7302232
def lw_Z (below : List Frame) (a : Array Value) (s : State) : State → Prop := fun t => ∃ o, t.status = .running ∧ Ended t below o ∧ lw_Q a s o t
/-- the law's own end, with 1 on the stack, nothing written that was there before, its room as the claim has it -/
theorem lw_ret {p : Program} {l : Launch} {e : Env} {s : State} {m : MethodId} {below : List Frame} {meth : Method} {c : Code} {b : Nat} (hx : p.tables.exec = Jvm.exec) (hb : c.code = code) (hr : meth.sig.returnType = ret) (hlocks : meth.locks = false) {pc : Nat} {H : Heap} {ls : Array Slot} (hdg : decode code pc = .ok (.ireturn, 1)) : W p l e room_1 s m #[Value.ref b] below meth c H [] 600002 7302232 (lw_Z below #[Value.ref b] s) (F0 m pc ls [.int 1]) := by
  intro T hT X
  obtain ⟨fs, hret, hrun, hended, hW, hframe⟩ := X.leave (v := some (.int 1)) (hlocks := hlocks) (fun h => by rw [hr] at h; cases h)
  have hmeth' : T.vm.method? m = some meth := X.method'
  refine ⟨T.setFrames fs, ?_, .returned (some (.int 1)), hrun, hended, rfl, ⟨_, rfl⟩, hW, hframe⟩
  jvm_step X.here [X.here.top, hx, hb, hdg, hmeth', hr, ret, narrow_b1]
  (try refine ⟨rfl, ?_⟩); (try refine ⟨rfl, ?_⟩)
  first | (intro acts; rw [hret _ acts rfl rfl rfl]) | rw [hret _ _ rfl rfl rfl]
  exact Steps.refl _
/-- what holds at the law's entry: the machine, the code, the tables' words (any of lw_tbl by 'hts w (by decide +kernel)'), the script of L ints xs at the cell b, what the Statement gives of the start (any of its parts by flat_of_before) -/
def lw_At (p : Program) (s : State) (m : MethodId) (meth : Method) (c : Code) (b L : Nat) (xs : Nat → Int32) : Prop :=
  p.tables.exec = Jvm.exec ∧ c.code = code ∧ meth.sig.returnType = ret ∧ c.maxLocals = 8 ∧ s.vm.findClass R_law = some m.cls ∧ (∀ w ∈ lw_tbl, w.before #[Value.ref b] s = true) ∧ va_X b L xs s s.heap ∧ b < s.heap.size ∧ meth.locks = false ∧ (Jvm.Cond.and given_1 narrow_1).before #[Value.ref b] s = true
-- ===== YOUR PART BEGINS =====
/-- YOUR PART: from the entry, for every script of at most 4 ints, the law comes to its end with true -/
theorem whole_start {p : Program} {e : Env} {s : State} {m : MethodId} {below : List Frame} {meth : Method} {c : Code} (l : Launch) (hfl : l.flags = flags0) {b L : Nat} {xs : Nat → Int32} (hL : L ≤ 4) (hnm : meth.name = x.name) (htab : c.exceptionTable.toList.map (fun h => (h.startPc, h.endPc, h.handlerPc, h.catchType)) = []) (C0 : lw_At p s m meth c b L xs) : W p l e room_1 s m #[Value.ref b] below meth c s.heap [] 0 0 (lw_Z below #[Value.ref b] s) (entryFrame m ([Value.ref b] : List Value).toArray 8) := by
  obtain ⟨h1, h2, h3, h4, h5, h6, h7, h8, h9, h10⟩ := C0
  obtain ⟨D, dA, hW⟩ := et_world h6 h10 h7 h8
  refine et_wide (R' := et_rm 900 600002 7302232) (by decide) (by decide) (by decide) (by decide) ?_
  refine et_mono (Q := et_Q below (et_Qc s.heap.size D dA et_one) #[Value.ref b] s 600002 7302232 (fun q => s.heap.size ≤ q)) ?_ ?_
  · rintro t ⟨o, q1, q2, ⟨⟨r, h, n, hp, -, hO⟩, -⟩, hWm, L', hs, hf⟩
    have hp' : r = .inl (some (.int 1)) := hp
    subst hp'
    have hO' : o = .returned (some (.int 1)) := hO
    subst hO'
    exact ⟨_, q1, q2, rfl, ⟨_, rfl⟩, hWm, hs.weaken (fun y hy hlt => absurd hlt (Nat.not_lt.mpr (hf y hy))) (Nat.le_refl _) (Nat.le_refl _)⟩
  · have he := lv_entry [Value.ref b] (n := 8) (Nat.le_of_ble_eq_true rfl)
    rw [lg_entry_eq]
    exact law_p1 (sc := (b, L, xs)) hL (by decide) (by decide) p l e _ s m _ below meth c s.heap.size D dA _ s.heap [] ⟨h1, h2, h4, h3, h9, hnm, h5, fun w hw => h6 w (et_tb hw), htab, rfl, hW, et_flag hfl⟩ et_void_HP (fun _ _ => rfl) (fun _ h => by cases h) (et_sub he (fun q hq => et_av_args (B := s.heap.size) [Value.retAddr b] 0 7 q hq))
-- ===== YOUR PART ENDS =====
set_option maxHeartbeats 4000000 in
theorem lw_walk (l : Launch) (hfl : l.flags = flags0) (b : Addr) (xs : List Int32) : MetFree l x (headSpec (Jvm.Cond.code x code maxLocals ret :: tables_1) room_1) (lw_P b xs) (fun _ _ _ _ _ => True) lw_Q := by
  refine MetFree.of_bodyS (code := code) (maxLocals := maxLocals) (ret := ret) (by decide) ?_ ?_
  · intro args s m h hn
    obtain ⟨meth, c, h1, h2, h3, h4, h5, h6, -, -⟩ := Cond.code_spec hn (atoms_spec (ws := Jvm.Cond.code x code maxLocals ret :: tables_1) h _ List.mem_cons_self)
    exact ⟨meth, c, h1, h2, h3, h4, h5, h6⟩
  · intro p e s m args below meth c s₁ B hml0 hP _
    obtain ⟨rfl, hx, hbd, hgv⟩ := hP
    obtain ⟨scr, harrAt, hlist, hof, hsmall⟩ := hx
    obtain ⟨hcb, hkn, -, -⟩ := State.arrayAt?_spec harrAt
    have hown : s.vm.findClass R_law = some m.cls := findClass_of_methodNamed B.named
    have hts0 : ∀ c ∈ (Jvm.Cond.code x code maxLocals ret :: tables_1), c.before #[Value.ref b] s = true := atoms_spec (ws := Jvm.Cond.code x code maxLocals ret :: tables_1) B.pre
    have hts : ∀ w ∈ lw_tbl, w.before #[Value.ref b] s = true := k2_hts_sels lw_privs (fun w hw => hts0 w (List.mem_cons_of_mem _ hw)) lw_privs_ok
    have hml : c.maxLocals = 8 := B.maxLocals_eq (hts0 _ List.mem_cons_self)
    have X₀ : Stand p l e room_1 s m #[Value.ref b] below meth c s₁ [] 0 0 := Stand.of_body B
    have hh0 : s₁.heap = s.heap := by rw [B.state]; rfl
    have hsz : scr.slots.size = xs.length := by rw [← Array.length_toList, hlist, List.length_map]
    have hval : ∀ j : Nat, j < xs.length → scr.slots[j]? = some (.int (xs.getD j 0)) := fun j hj => by
      rw [← Array.getElem?_toList, hlist]
      simp [hj]
    have hbl : b < s.heap.size := (Array.getElem?_eq_some_iff.mp hcb).1
    have hX : va_X b xs.length (fun j => xs.getD j 0) s s.heap := ⟨scr, hcb, hof, hkn, hsz, hval⟩
    have K : W p l e room_1 s m #[Value.ref b] below meth c s₁.heap [] 0 0 (lw_Z below #[Value.ref b] s) (entryFrame m ([Value.ref b] : List Value).toArray 8) := by
      rw [hh0]
      obtain ⟨meth', c', g1, g2, -, -, -, -, g7, -⟩ := et_cw_spec (hh := []) B.named (hts0 _ List.mem_cons_self)
      cases B.method.symm.trans g1
      cases X₀.code.symm.trans g2
      exact whole_start l hfl hbd (name_of_methodNamed B.named B.method).1 g7 ⟨B.exec, B.bytes, B.returns, hml, hown, hts, hX, hbl, B.notSynchronized, hgv⟩
    obtain ⟨t, a1, o, b1, b2, b3⟩ := K s₁ rfl X₀
    exact ⟨t, o, a1, b1, b2, b3⟩
theorem lw_pre_spec {args : Array Value} {s : State} (h : (Jvm.Cond.and given_1 narrow_1).before args s = true) (hr : rest_1_c.before args s = true) : ∃ (b : Addr) (xs : List Int32), lw_P b xs args s := by
  have hs := flat_of_before _ h
  have hq := flat_of_before _ hr
  have hc : (Cond.count 1).before args s = true := hs _ (by decide +kernel)
  have harr : (Cond.arrayOf (.arg 0) .int).before args s = true := hs _ (by decide +kernel)
  have hle : (Cond.le (.length (.arg 0)) (.int 4)).before args s = true := hs _ (by decide +kernel)
  have hlen : (Cond.isInt (.length (.arg 0))).before args s = true := hq _ (by decide +kernel)
  have hall : (Cond.all (.arg 0) (.isInt (.elem (.arg 0) (.index 0)))).before args s = true := hq _ (by decide +kernel)
  obtain ⟨b, xs, hb, hx⟩ := State.ints_of_pre rfl harr hlen hall
  have hsm : xs.length < 2 ^ 31 := hx.choose_spec.2.2.2
  have hev : (Term.length (.arg 0)).eval args s none [] s = some (.int xs.length.toInt32) := hx.length_eval hb
  have hv := Cond.le_ints hev (show (Term.int 4).eval args s none [] s = some (.int 4) from rfl)
  have hd : xs.length.toInt32 ≤ 4 := by
    simpa [Cond.before, Cond.holds, hv] using hle
  have hN : xs.length ≤ 4 := (Int32.ofNat_le_ofNat hsm (by decide)).mp (show Int32.ofNat xs.length ≤ Int32.ofNat 4 from hd)
  exact ⟨b, xs, Cond.one_arg hc (show args[0]? = some (.ref b) from hb), hx, hN, h⟩
theorem lw_comes (l : Launch) (hfl : l.flags = flags0) : Comes l x (Jvm.Cond.code x code maxLocals ret :: tables_1) room_1 (fun tb e args s => Calls_1 tb e args s ∧ rest_1 tb e args s ∧ Pre_1 tb e args s)
    (fun _ _ args s o t => lw_Q args s o t) := by
  intro p e ha hc hk s m args below hf hfit hheap happ hpre
  obtain ⟨b, xs, hP⟩ := lw_pre_spec hpre.2.2 hpre.2.1
  obtain ⟨k, o, h1, h2, h3, hQ⟩ := lw_walk l hfl b xs p e ha hc hk s m args below hf ((Spec.applies_iff_loose hf).mp happ).1 hP trivial
  exact ⟨k, o, h1, h2, h3, hQ⟩
theorem lw_frame {s t : State} {o : Outcome} {args : Array Value} (h : Framed s o t [] 600002 7302232) :
    Framed s o t (fieldLocs frame_1_writes args s ++ arrayLocs frame_1_arrays args s ++ staticLocs frame_1_statics s) 600002 7302232 := h
theorem lw_limb (L : Cond) (hL : ∀ (args : Array Value) (s t : State), L.after args s (.returned (some (.int 1))) t = true) :
    ArmFor flags0 classFile x code maxLocals ret World_1 tables_1 room_1 Calls_1 rest_1 Pre_1
      (fun tb e a s o t => postC L tb e a s o t ∧ Framed s o t (fieldLocs frame_1_writes a s ++ arrayLocs frame_1_arrays a s ++ staticLocs frame_1_statics s) 600002 7302232) := by
  intro l hfl _ _ p e ha hc hk s m args below hf hfit hheap happ hpre
  obtain ⟨k, o, h1, h2, h3, rfl, hF⟩ := lw_comes l hfl p e ha hc hk s m args below hf hfit hheap happ hpre
  exact ⟨k, _, h1, h2, h3, hL args s _, lw_frame hF⟩
theorem i_vc : Claimed_1_1 ∧ Claimed_1_2 := ⟨lw_limb limb_1_1 (fun args s t => by simp [limb_1_1, Cond.after, Cond.holds, Cond.value]), lw_limb limb_1_2 (fun args s t => Cond.after_iff.mpr (by
  first | (rw [show limb_1_2 = Cond.eq .result (.int 1) from rfl, Cond.eq_ints (x := 1) (y := 1) rfl rfl]; simp; done) | (simp [limb_1_2, Cond.value, Term.eval]; done)))⟩
end
