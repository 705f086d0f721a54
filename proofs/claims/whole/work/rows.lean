section
-- ===== PART A: goes FIRST, ahead of the names: the tables' words, and 'selects' of the private methods out of them =====
/-- a private method of a class that the tables say can be made, by its rows of tables_1 -/
def lw_okq (q : MethodName × Nat) : Prop := (q.1.cls ≠ "java/lang/invoke/MethodHandle" ∧ q.1.cls ≠ "java/lang/invoke/VarHandle") ∧ Cond.instantiable q.1.cls q.2 ∈ tables_1 ∧ Cond.privateMethod q.1 ∈ tables_1 ∧ Cond.instanceMethod q.1 ∈ tables_1
theorem lw_p0 : lw_okq (⟨"EqualTerms$Text", "firstWrong", "(ZZ)I"⟩, 4) := ⟨⟨by decide +kernel, by decide +kernel⟩, List.mem_of_getElem? (i := 27) (by decide +kernel), List.mem_of_getElem? (i := 250) (by decide +kernel), List.mem_of_getElem? (i := 251) (by decide +kernel)⟩
theorem lw_p1 : lw_okq (⟨"EqualTerms$Text", "partsInRule", "(I)I"⟩, 4) := ⟨⟨by decide +kernel, by decide +kernel⟩, List.mem_of_getElem? (i := 27) (by decide +kernel), List.mem_of_getElem? (i := 254) (by decide +kernel), List.mem_of_getElem? (i := 255) (by decide +kernel)⟩
theorem lw_p2 : lw_okq (⟨"EqualTerms$Text", "inFirstSide", "(I)Z"⟩, 4) := ⟨⟨by decide +kernel, by decide +kernel⟩, List.mem_of_getElem? (i := 27) (by decide +kernel), List.mem_of_getElem? (i := 261) (by decide +kernel), List.mem_of_getElem? (i := 262) (by decide +kernel)⟩
theorem lw_p3 : lw_okq (⟨"EqualTerms$Text", "noteWrong", "(I)Z"⟩, 4) := ⟨⟨by decide +kernel, by decide +kernel⟩, List.mem_of_getElem? (i := 27) (by decide +kernel), List.mem_of_getElem? (i := 273) (by decide +kernel), List.mem_of_getElem? (i := 274) (by decide +kernel)⟩
theorem lw_p4 : lw_okq (⟨"java/lang/Throwable", "fillInStackTrace", "(I)Ljava/lang/Throwable;"⟩, 6) := ⟨⟨by decide +kernel, by decide +kernel⟩, List.mem_of_getElem? (i := 314) (by decide +kernel), List.mem_of_getElem? (i := 312) (by decide +kernel), List.mem_of_getElem? (i := 313) (by decide +kernel)⟩
theorem lw_p5 : lw_okq (⟨"EqualTerms", "demandTerm", "()V"⟩, 7) := ⟨⟨by decide +kernel, by decide +kernel⟩, List.mem_of_getElem? (i := 19) (by decide +kernel), List.mem_of_getElem? (i := 412) (by decide +kernel), List.mem_of_getElem? (i := 413) (by decide +kernel)⟩
theorem lw_p6 : lw_okq (⟨"EqualTerms$Graph", "nodeAmong", "(IIII)I"⟩, 8) := ⟨⟨by decide +kernel, by decide +kernel⟩, List.mem_of_getElem? (i := 54) (by decide +kernel), List.mem_of_getElem? (i := 431) (by decide +kernel), List.mem_of_getElem? (i := 432) (by decide +kernel)⟩
theorem lw_p7 : lw_okq (⟨"EqualTerms$Graph", "putNode", "(IIIII)V"⟩, 8) := ⟨⟨by decide +kernel, by decide +kernel⟩, List.mem_of_getElem? (i := 54) (by decide +kernel), List.mem_of_getElem? (i := 435) (by decide +kernel), List.mem_of_getElem? (i := 436) (by decide +kernel)⟩
theorem lw_p8 : lw_okq (⟨"EqualTerms$Graph", "nameAllByNumber", "()V"⟩, 8) := ⟨⟨by decide +kernel, by decide +kernel⟩, List.mem_of_getElem? (i := 54) (by decide +kernel), List.mem_of_getElem? (i := 443) (by decide +kernel), List.mem_of_getElem? (i := 444) (by decide +kernel)⟩
theorem lw_p9 : lw_okq (⟨"EqualTerms", "demandEquation", "()V"⟩, 7) := ⟨⟨by decide +kernel, by decide +kernel⟩, List.mem_of_getElem? (i := 19) (by decide +kernel), List.mem_of_getElem? (i := 455) (by decide +kernel), List.mem_of_getElem? (i := 456) (by decide +kernel)⟩
theorem lw_p10 : lw_okq (⟨"EqualTerms$Graph", "rename", "()V"⟩, 8) := ⟨⟨by decide +kernel, by decide +kernel⟩, List.mem_of_getElem? (i := 54) (by decide +kernel), List.mem_of_getElem? (i := 473) (by decide +kernel), List.mem_of_getElem? (i := 474) (by decide +kernel)⟩
theorem lw_p11 : lw_okq (⟨"EqualTerms$Graph", "mergeTwins", "()Z"⟩, 8) := ⟨⟨by decide +kernel, by decide +kernel⟩, List.mem_of_getElem? (i := 54) (by decide +kernel), List.mem_of_getElem? (i := 477) (by decide +kernel), List.mem_of_getElem? (i := 478) (by decide +kernel)⟩
theorem lw_p12 : lw_okq (⟨"EqualTerms$Graph", "renumber", "()V"⟩, 8) := ⟨⟨by decide +kernel, by decide +kernel⟩, List.mem_of_getElem? (i := 54) (by decide +kernel), List.mem_of_getElem? (i := 482) (by decide +kernel), List.mem_of_getElem? (i := 483) (by decide +kernel)⟩
theorem lw_p13 : lw_okq (⟨"EqualTerms$Round", "listNodes", "()V"⟩, 6) := ⟨⟨by decide +kernel, by decide +kernel⟩, List.mem_of_getElem? (i := 116) (by decide +kernel), List.mem_of_getElem? (i := 518) (by decide +kernel), List.mem_of_getElem? (i := 519) (by decide +kernel)⟩
theorem lw_p14 : lw_okq (⟨"EqualTerms$Round", "fitFrom", "(LEqualTerms$Rule;I)Z"⟩, 6) := ⟨⟨by decide +kernel, by decide +kernel⟩, List.mem_of_getElem? (i := 116) (by decide +kernel), List.mem_of_getElem? (i := 522) (by decide +kernel), List.mem_of_getElem? (i := 523) (by decide +kernel)⟩
theorem lw_p15 : lw_okq (⟨"EqualTerms$Round", "joinSides", "(LEqualTerms$Rule;)Z"⟩, 6) := ⟨⟨by decide +kernel, by decide +kernel⟩, List.mem_of_getElem? (i := 116) (by decide +kernel), List.mem_of_getElem? (i := 526) (by decide +kernel), List.mem_of_getElem? (i := 527) (by decide +kernel)⟩
def lw_privs_1 : List (MethodName × Nat) := [(⟨"EqualTerms$Text", "firstWrong", "(ZZ)I"⟩, 4), (⟨"EqualTerms$Text", "partsInRule", "(I)I"⟩, 4), (⟨"EqualTerms$Text", "inFirstSide", "(I)Z"⟩, 4), (⟨"EqualTerms$Text", "noteWrong", "(I)Z"⟩, 4), (⟨"java/lang/Throwable", "fillInStackTrace", "(I)Ljava/lang/Throwable;"⟩, 6), (⟨"EqualTerms", "demandTerm", "()V"⟩, 7), (⟨"EqualTerms$Graph", "nodeAmong", "(IIII)I"⟩, 8), (⟨"EqualTerms$Graph", "putNode", "(IIIII)V"⟩, 8), (⟨"EqualTerms$Graph", "nameAllByNumber", "()V"⟩, 8), (⟨"EqualTerms", "demandEquation", "()V"⟩, 7), (⟨"EqualTerms$Graph", "rename", "()V"⟩, 8), (⟨"EqualTerms$Graph", "mergeTwins", "()Z"⟩, 8), (⟨"EqualTerms$Graph", "renumber", "()V"⟩, 8), (⟨"EqualTerms$Round", "listNodes", "()V"⟩, 6), (⟨"EqualTerms$Round", "fitFrom", "(LEqualTerms$Rule;I)Z"⟩, 6), (⟨"EqualTerms$Round", "joinSides", "(LEqualTerms$Rule;)Z"⟩, 6)]
theorem lw_r1 : ∀ q ∈ lw_privs_1, lw_okq q := List.forall_mem_cons.mpr ⟨lw_p0, List.forall_mem_cons.mpr ⟨lw_p1, List.forall_mem_cons.mpr ⟨lw_p2, List.forall_mem_cons.mpr ⟨lw_p3, List.forall_mem_cons.mpr ⟨lw_p4, List.forall_mem_cons.mpr ⟨lw_p5, List.forall_mem_cons.mpr ⟨lw_p6, List.forall_mem_cons.mpr ⟨lw_p7, List.forall_mem_cons.mpr ⟨lw_p8, List.forall_mem_cons.mpr ⟨lw_p9, List.forall_mem_cons.mpr ⟨lw_p10, List.forall_mem_cons.mpr ⟨lw_p11, List.forall_mem_cons.mpr ⟨lw_p12, List.forall_mem_cons.mpr ⟨lw_p13, List.forall_mem_cons.mpr ⟨lw_p14, List.forall_mem_cons.mpr ⟨lw_p15, fun _ h => absurd h List.not_mem_nil⟩⟩⟩⟩⟩⟩⟩⟩⟩⟩⟩⟩⟩⟩⟩⟩
theorem lw_p16 : lw_okq (⟨"EqualTerms$Round", "seatParts", "(LEqualTerms$Rule;II)V"⟩, 6) := ⟨⟨by decide +kernel, by decide +kernel⟩, List.mem_of_getElem? (i := 116) (by decide +kernel), List.mem_of_getElem? (i := 533) (by decide +kernel), List.mem_of_getElem? (i := 534) (by decide +kernel)⟩
theorem lw_p17 : lw_okq (⟨"EqualTerms", "takeTerm", "()I"⟩, 7) := ⟨⟨by decide +kernel, by decide +kernel⟩, List.mem_of_getElem? (i := 19) (by decide +kernel), List.mem_of_getElem? (i := 547) (by decide +kernel), List.mem_of_getElem? (i := 548) (by decide +kernel)⟩
theorem lw_p18 : lw_okq (⟨"EqualTerms$Cheapest", "weighNode", "(I)Z"⟩, 6) := ⟨⟨by decide +kernel, by decide +kernel⟩, List.mem_of_getElem? (i := 142) (by decide +kernel), List.mem_of_getElem? (i := 571) (by decide +kernel), List.mem_of_getElem? (i := 572) (by decide +kernel)⟩
theorem lw_p19 : lw_okq (⟨"EqualTerms$Cheapest", "costThrough", "(I)J"⟩, 6) := ⟨⟨by decide +kernel, by decide +kernel⟩, List.mem_of_getElem? (i := 142) (by decide +kernel), List.mem_of_getElem? (i := 575) (by decide +kernel), List.mem_of_getElem? (i := 576) (by decide +kernel)⟩
theorem lw_p20 : lw_okq (⟨"EqualTerms$Cheapest", "lengthThrough", "(I)J"⟩, 6) := ⟨⟨by decide +kernel, by decide +kernel⟩, List.mem_of_getElem? (i := 142) (by decide +kernel), List.mem_of_getElem? (i := 583) (by decide +kernel), List.mem_of_getElem? (i := 584) (by decide +kernel)⟩
theorem lw_p21 : lw_okq (⟨"EqualTerms$Cheapest", "isBest", "(I)Z"⟩, 6) := ⟨⟨by decide +kernel, by decide +kernel⟩, List.mem_of_getElem? (i := 142) (by decide +kernel), List.mem_of_getElem? (i := 601) (by decide +kernel), List.mem_of_getElem? (i := 602) (by decide +kernel)⟩
theorem lw_p22 : lw_okq (⟨"EqualTerms$Cheapest", "spellNode", "(II)V"⟩, 6) := ⟨⟨by decide +kernel, by decide +kernel⟩, List.mem_of_getElem? (i := 142) (by decide +kernel), List.mem_of_getElem? (i := 605) (by decide +kernel), List.mem_of_getElem? (i := 606) (by decide +kernel)⟩
theorem lw_p23 : lw_okq (⟨"EqualTerms$Cheapest", "appendTerm", "(II)I"⟩, 6) := ⟨⟨by decide +kernel, by decide +kernel⟩, List.mem_of_getElem? (i := 142) (by decide +kernel), List.mem_of_getElem? (i := 609) (by decide +kernel), List.mem_of_getElem? (i := 610) (by decide +kernel)⟩
theorem lw_p24 : lw_okq (⟨"EqualTerms$Cheapest", "trialComesBefore", "([II)Z"⟩, 6) := ⟨⟨by decide +kernel, by decide +kernel⟩, List.mem_of_getElem? (i := 142) (by decide +kernel), List.mem_of_getElem? (i := 614) (by decide +kernel), List.mem_of_getElem? (i := 615) (by decide +kernel)⟩
theorem lw_p25 : lw_okq (⟨"EqualTermsModel", "readBoth", "(IZ)I"⟩, 33) := ⟨⟨by decide +kernel, by decide +kernel⟩, List.mem_of_getElem? (i := 623) (by decide +kernel), List.mem_of_getElem? (i := 758) (by decide +kernel), List.mem_of_getElem? (i := 759) (by decide +kernel)⟩
theorem lw_p26 : lw_okq (⟨"EqualTermsModel", "readSide", "(II)Z"⟩, 33) := ⟨⟨by decide +kernel, by decide +kernel⟩, List.mem_of_getElem? (i := 623) (by decide +kernel), List.mem_of_getElem? (i := 762) (by decide +kernel), List.mem_of_getElem? (i := 763) (by decide +kernel)⟩
theorem lw_p27 : lw_okq (⟨"EqualTermsModel", "fail", "()Z"⟩, 33) := ⟨⟨by decide +kernel, by decide +kernel⟩, List.mem_of_getElem? (i := 623) (by decide +kernel), List.mem_of_getElem? (i := 766) (by decide +kernel), List.mem_of_getElem? (i := 767) (by decide +kernel)⟩
theorem lw_p28 : lw_okq (⟨"EqualTermsModel", "refuse", "(I)I"⟩, 33) := ⟨⟨by decide +kernel, by decide +kernel⟩, List.mem_of_getElem? (i := 623) (by decide +kernel), List.mem_of_getElem? (i := 773) (by decide +kernel), List.mem_of_getElem? (i := 774) (by decide +kernel)⟩
theorem lw_p29 : lw_okq (⟨"EqualTermsModel", "readTerm", "()Z"⟩, 33) := ⟨⟨by decide +kernel, by decide +kernel⟩, List.mem_of_getElem? (i := 623) (by decide +kernel), List.mem_of_getElem? (i := 781) (by decide +kernel), List.mem_of_getElem? (i := 782) (by decide +kernel)⟩
theorem lw_p30 : lw_okq (⟨"EqualTermsModel", "workText", "(III)I"⟩, 33) := ⟨⟨by decide +kernel, by decide +kernel⟩, List.mem_of_getElem? (i := 623) (by decide +kernel), List.mem_of_getElem? (i := 785) (by decide +kernel), List.mem_of_getElem? (i := 786) (by decide +kernel)⟩
theorem lw_p31 : lw_okq (⟨"EqualTermsModel", "push", "(II)Z"⟩, 33) := ⟨⟨by decide +kernel, by decide +kernel⟩, List.mem_of_getElem? (i := 623) (by decide +kernel), List.mem_of_getElem? (i := 789) (by decide +kernel), List.mem_of_getElem? (i := 790) (by decide +kernel)⟩
def lw_privs_2 : List (MethodName × Nat) := [(⟨"EqualTerms$Round", "seatParts", "(LEqualTerms$Rule;II)V"⟩, 6), (⟨"EqualTerms", "takeTerm", "()I"⟩, 7), (⟨"EqualTerms$Cheapest", "weighNode", "(I)Z"⟩, 6), (⟨"EqualTerms$Cheapest", "costThrough", "(I)J"⟩, 6), (⟨"EqualTerms$Cheapest", "lengthThrough", "(I)J"⟩, 6), (⟨"EqualTerms$Cheapest", "isBest", "(I)Z"⟩, 6), (⟨"EqualTerms$Cheapest", "spellNode", "(II)V"⟩, 6), (⟨"EqualTerms$Cheapest", "appendTerm", "(II)I"⟩, 6), (⟨"EqualTerms$Cheapest", "trialComesBefore", "([II)Z"⟩, 6), (⟨"EqualTermsModel", "readBoth", "(IZ)I"⟩, 33), (⟨"EqualTermsModel", "readSide", "(II)Z"⟩, 33), (⟨"EqualTermsModel", "fail", "()Z"⟩, 33), (⟨"EqualTermsModel", "refuse", "(I)I"⟩, 33), (⟨"EqualTermsModel", "readTerm", "()Z"⟩, 33), (⟨"EqualTermsModel", "workText", "(III)I"⟩, 33), (⟨"EqualTermsModel", "push", "(II)Z"⟩, 33)]
theorem lw_r2 : ∀ q ∈ lw_privs_2, lw_okq q := List.forall_mem_cons.mpr ⟨lw_p16, List.forall_mem_cons.mpr ⟨lw_p17, List.forall_mem_cons.mpr ⟨lw_p18, List.forall_mem_cons.mpr ⟨lw_p19, List.forall_mem_cons.mpr ⟨lw_p20, List.forall_mem_cons.mpr ⟨lw_p21, List.forall_mem_cons.mpr ⟨lw_p22, List.forall_mem_cons.mpr ⟨lw_p23, List.forall_mem_cons.mpr ⟨lw_p24, List.forall_mem_cons.mpr ⟨lw_p25, List.forall_mem_cons.mpr ⟨lw_p26, List.forall_mem_cons.mpr ⟨lw_p27, List.forall_mem_cons.mpr ⟨lw_p28, List.forall_mem_cons.mpr ⟨lw_p29, List.forall_mem_cons.mpr ⟨lw_p30, List.forall_mem_cons.mpr ⟨lw_p31, fun _ h => absurd h List.not_mem_nil⟩⟩⟩⟩⟩⟩⟩⟩⟩⟩⟩⟩⟩⟩⟩⟩
theorem lw_p32 : lw_okq (⟨"EqualTermsModel", "classOf", "(IIII)I"⟩, 33) := ⟨⟨by decide +kernel, by decide +kernel⟩, List.mem_of_getElem? (i := 623) (by decide +kernel), List.mem_of_getElem? (i := 793) (by decide +kernel), List.mem_of_getElem? (i := 794) (by decide +kernel)⟩
theorem lw_p33 : lw_okq (⟨"EqualTermsModel", "findNode", "(III)I"⟩, 33) := ⟨⟨by decide +kernel, by decide +kernel⟩, List.mem_of_getElem? (i := 623) (by decide +kernel), List.mem_of_getElem? (i := 797) (by decide +kernel), List.mem_of_getElem? (i := 798) (by decide +kernel)⟩
theorem lw_p34 : lw_okq (⟨"EqualTermsModel", "cut", "(II)V"⟩, 33) := ⟨⟨by decide +kernel, by decide +kernel⟩, List.mem_of_getElem? (i := 623) (by decide +kernel), List.mem_of_getElem? (i := 801) (by decide +kernel), List.mem_of_getElem? (i := 802) (by decide +kernel)⟩
theorem lw_p35 : lw_okq (⟨"EqualTermsModel", "joinClasses", "(II)V"⟩, 33) := ⟨⟨by decide +kernel, by decide +kernel⟩, List.mem_of_getElem? (i := 623) (by decide +kernel), List.mem_of_getElem? (i := 809) (by decide +kernel), List.mem_of_getElem? (i := 810) (by decide +kernel)⟩
theorem lw_p36 : lw_okq (⟨"EqualTermsModel", "close", "()V"⟩, 33) := ⟨⟨by decide +kernel, by decide +kernel⟩, List.mem_of_getElem? (i := 623) (by decide +kernel), List.mem_of_getElem? (i := 813) (by decide +kernel), List.mem_of_getElem? (i := 814) (by decide +kernel)⟩
theorem lw_p37 : lw_okq (⟨"EqualTermsModel", "labelOf", "(I)I"⟩, 33) := ⟨⟨by decide +kernel, by decide +kernel⟩, List.mem_of_getElem? (i := 623) (by decide +kernel), List.mem_of_getElem? (i := 817) (by decide +kernel), List.mem_of_getElem? (i := 818) (by decide +kernel)⟩
theorem lw_p38 : lw_okq (⟨"EqualTermsModel", "removeNode", "(I)V"⟩, 33) := ⟨⟨by decide +kernel, by decide +kernel⟩, List.mem_of_getElem? (i := 623) (by decide +kernel), List.mem_of_getElem? (i := 821) (by decide +kernel), List.mem_of_getElem? (i := 822) (by decide +kernel)⟩
theorem lw_p39 : lw_okq (⟨"EqualTermsModel", "renumber", "()V"⟩, 33) := ⟨⟨by decide +kernel, by decide +kernel⟩, List.mem_of_getElem? (i := 623) (by decide +kernel), List.mem_of_getElem? (i := 825) (by decide +kernel), List.mem_of_getElem? (i := 826) (by decide +kernel)⟩
theorem lw_p40 : lw_okq (⟨"EqualTermsModel", "oneRound", "()I"⟩, 33) := ⟨⟨by decide +kernel, by decide +kernel⟩, List.mem_of_getElem? (i := 623) (by decide +kernel), List.mem_of_getElem? (i := 842) (by decide +kernel), List.mem_of_getElem? (i := 843) (by decide +kernel)⟩
theorem lw_p41 : lw_okq (⟨"EqualTermsModel", "fillTables", "()V"⟩, 33) := ⟨⟨by decide +kernel, by decide +kernel⟩, List.mem_of_getElem? (i := 623) (by decide +kernel), List.mem_of_getElem? (i := 846) (by decide +kernel), List.mem_of_getElem? (i := 847) (by decide +kernel)⟩
theorem lw_p42 : lw_okq (⟨"EqualTermsModel", "fit", "(II)V"⟩, 33) := ⟨⟨by decide +kernel, by decide +kernel⟩, List.mem_of_getElem? (i := 623) (by decide +kernel), List.mem_of_getElem? (i := 853) (by decide +kernel), List.mem_of_getElem? (i := 854) (by decide +kernel)⟩
theorem lw_p43 : lw_okq (⟨"EqualTermsModel", "variablesOf", "(I)I"⟩, 33) := ⟨⟨by decide +kernel, by decide +kernel⟩, List.mem_of_getElem? (i := 623) (by decide +kernel), List.mem_of_getElem? (i := 857) (by decide +kernel), List.mem_of_getElem? (i := 858) (by decide +kernel)⟩
theorem lw_p44 : lw_okq (⟨"EqualTermsModel", "tabled", "(I)I"⟩, 33) := ⟨⟨by decide +kernel, by decide +kernel⟩, List.mem_of_getElem? (i := 623) (by decide +kernel), List.mem_of_getElem? (i := 861) (by decide +kernel), List.mem_of_getElem? (i := 862) (by decide +kernel)⟩
theorem lw_p45 : lw_okq (⟨"EqualTermsModel", "workSide", "(II)I"⟩, 33) := ⟨⟨by decide +kernel, by decide +kernel⟩, List.mem_of_getElem? (i := 623) (by decide +kernel), List.mem_of_getElem? (i := 865) (by decide +kernel), List.mem_of_getElem? (i := 866) (by decide +kernel)⟩
theorem lw_p46 : lw_okq (⟨"EqualTermsModel", "nextChoice", "(II)Z"⟩, 33) := ⟨⟨by decide +kernel, by decide +kernel⟩, List.mem_of_getElem? (i := 623) (by decide +kernel), List.mem_of_getElem? (i := 869) (by decide +kernel), List.mem_of_getElem? (i := 870) (by decide +kernel)⟩
theorem lw_p47 : lw_okq (⟨"EqualTermsModel", "asked", "()I"⟩, 33) := ⟨⟨by decide +kernel, by decide +kernel⟩, List.mem_of_getElem? (i := 623) (by decide +kernel), List.mem_of_getElem? (i := 885) (by decide +kernel), List.mem_of_getElem? (i := 886) (by decide +kernel)⟩
def lw_privs_3 : List (MethodName × Nat) := [(⟨"EqualTermsModel", "classOf", "(IIII)I"⟩, 33), (⟨"EqualTermsModel", "findNode", "(III)I"⟩, 33), (⟨"EqualTermsModel", "cut", "(II)V"⟩, 33), (⟨"EqualTermsModel", "joinClasses", "(II)V"⟩, 33), (⟨"EqualTermsModel", "close", "()V"⟩, 33), (⟨"EqualTermsModel", "labelOf", "(I)I"⟩, 33), (⟨"EqualTermsModel", "removeNode", "(I)V"⟩, 33), (⟨"EqualTermsModel", "renumber", "()V"⟩, 33), (⟨"EqualTermsModel", "oneRound", "()I"⟩, 33), (⟨"EqualTermsModel", "fillTables", "()V"⟩, 33), (⟨"EqualTermsModel", "fit", "(II)V"⟩, 33), (⟨"EqualTermsModel", "variablesOf", "(I)I"⟩, 33), (⟨"EqualTermsModel", "tabled", "(I)I"⟩, 33), (⟨"EqualTermsModel", "workSide", "(II)I"⟩, 33), (⟨"EqualTermsModel", "nextChoice", "(II)Z"⟩, 33), (⟨"EqualTermsModel", "asked", "()I"⟩, 33)]
theorem lw_r3 : ∀ q ∈ lw_privs_3, lw_okq q := List.forall_mem_cons.mpr ⟨lw_p32, List.forall_mem_cons.mpr ⟨lw_p33, List.forall_mem_cons.mpr ⟨lw_p34, List.forall_mem_cons.mpr ⟨lw_p35, List.forall_mem_cons.mpr ⟨lw_p36, List.forall_mem_cons.mpr ⟨lw_p37, List.forall_mem_cons.mpr ⟨lw_p38, List.forall_mem_cons.mpr ⟨lw_p39, List.forall_mem_cons.mpr ⟨lw_p40, List.forall_mem_cons.mpr ⟨lw_p41, List.forall_mem_cons.mpr ⟨lw_p42, List.forall_mem_cons.mpr ⟨lw_p43, List.forall_mem_cons.mpr ⟨lw_p44, List.forall_mem_cons.mpr ⟨lw_p45, List.forall_mem_cons.mpr ⟨lw_p46, List.forall_mem_cons.mpr ⟨lw_p47, fun _ h => absurd h List.not_mem_nil⟩⟩⟩⟩⟩⟩⟩⟩⟩⟩⟩⟩⟩⟩⟩⟩
theorem lw_p48 : lw_okq (⟨"EqualTermsModel", "findBest", "()V"⟩, 33) := ⟨⟨by decide +kernel, by decide +kernel⟩, List.mem_of_getElem? (i := 623) (by decide +kernel), List.mem_of_getElem? (i := 894) (by decide +kernel), List.mem_of_getElem? (i := 895) (by decide +kernel)⟩
theorem lw_p49 : lw_okq (⟨"EqualTermsModel", "append", "(I)V"⟩, 33) := ⟨⟨by decide +kernel, by decide +kernel⟩, List.mem_of_getElem? (i := 623) (by decide +kernel), List.mem_of_getElem? (i := 899) (by decide +kernel), List.mem_of_getElem? (i := 900) (by decide +kernel)⟩
theorem lw_p50 : lw_okq (⟨"EqualTermsModel", "isBetter", "(I)Z"⟩, 33) := ⟨⟨by decide +kernel, by decide +kernel⟩, List.mem_of_getElem? (i := 623) (by decide +kernel), List.mem_of_getElem? (i := 908) (by decide +kernel), List.mem_of_getElem? (i := 909) (by decide +kernel)⟩
def lw_privs_4 : List (MethodName × Nat) := [(⟨"EqualTermsModel", "findBest", "()V"⟩, 33), (⟨"EqualTermsModel", "append", "(I)V"⟩, 33), (⟨"EqualTermsModel", "isBetter", "(I)Z"⟩, 33)]
theorem lw_r4 : ∀ q ∈ lw_privs_4, lw_okq q := List.forall_mem_cons.mpr ⟨lw_p48, List.forall_mem_cons.mpr ⟨lw_p49, List.forall_mem_cons.mpr ⟨lw_p50, fun _ h => absurd h List.not_mem_nil⟩⟩⟩
def lw_privs : List (MethodName × Nat) := lw_privs_1 ++ (lw_privs_2 ++ (lw_privs_3 ++ (lw_privs_4)))
def lw_tbl : List Cond := k2_sels lw_privs ++ tables_1
theorem lw_privs_ok : ∀ q ∈ lw_privs, lw_okq q := by
  show ∀ q ∈ lw_privs_1 ++ (lw_privs_2 ++ (lw_privs_3 ++ (lw_privs_4))), lw_okq q
  exact List.forall_mem_append.mpr ⟨lw_r1, List.forall_mem_append.mpr ⟨lw_r2, List.forall_mem_append.mpr ⟨lw_r3, lw_r4⟩⟩⟩
end
section
/-! ===== my names: the words that stay true in every callee; classes; methods ===== -/
def et_gd (w : Cond) : Bool := (w.onTables && w.keeps) || (match w with | .arrayClass _ => true | _ => false)
def et_W : List Cond := lw_tbl.filter et_gd
theorem et_good : ∀ w ∈ et_W, (w.onTables && w.keeps) = true ∨ ∃ ty, w = .arrayClass ty := by
  intro w hw
  have h := (List.mem_filter.mp hw).2
  unfold et_gd at h
  rcases Bool.or_eq_true_iff.mp h with h1 | h1
  · exact Or.inl h1
  · cases w <;> first | exact Or.inr ⟨_, rfl⟩ | cases h1
theorem et_in {w : Cond} (i : Nat) (h : lw_tbl[i]? = some w) (hg : et_gd w = true) : w ∈ et_W := List.mem_filter.mpr ⟨List.mem_of_getElem? h, hg⟩
theorem et_ins {ws : List Cond} (ps : List Nat) (hp : ws = ps.filterMap (fun i => lw_tbl[i]?)) (hg : ws.all et_gd = true) : ∀ w ∈ ws, w ∈ et_W := by
  intro w hw
  have h1 := List.all_eq_true.mp hg w hw
  rw [hp] at hw
  obtain ⟨i, -, hi⟩ := List.mem_filterMap.mp hw
  exact et_in i hi h1
def F_C : u_T := fun k => match k with
  | 0 => ("EqualTerms$Cheapest", "prices", "[I", true)
  | 1 => ("EqualTerms$Cheapest", "costs", "[J", true)
  | 2 => ("EqualTerms$Cheapest", "lengths", "[J", true)
  | 3 => ("EqualTerms$Cheapest", "terms", "[[I", true)
  | 4 => ("EqualTerms$Cheapest", "graph", "LEqualTerms$Graph;", true)
  | _ => ("EqualTerms$Cheapest", "trial", "[I", true)
def ft_C : Nat → FieldType := fun k => match k with
  | 0 => .array .int
  | 1 => .array .long
  | 2 => .array .long
  | 3 => .array (.array .int)
  | 4 => .object "EqualTerms$Graph"
  | _ => .array .int
theorem nm_C : ∀ a, a < 6 → ∀ b, b < 6 → a ≠ b → (F_C a).2.1 ≠ (F_C b).2.1 := by decide +kernel
theorem ty_C : ∀ k, k < 6 → parseFieldDescriptor (F_C k).2.2.1 = some (ft_C k) := by decide +kernel
theorem in_C : ∀ w ∈ u_ws "EqualTerms$Cheapest" F_C 6, w ∈ et_W := et_ins [213, 215, 217, 219, 221, 223] (by decide +kernel) (by decide +kernel)
def F_G : u_T := fun k => match k with
  | 0 => ("EqualTerms$Graph", "signs", "[I", true)
  | 1 => ("EqualTerms$Graph", "lefts", "[I", true)
  | 2 => ("EqualTerms$Graph", "rights", "[I", true)
  | 3 => ("EqualTerms$Graph", "homes", "[I", true)
  | 4 => ("EqualTerms$Graph", "nodeCount", "I", false)
  | 5 => ("EqualTerms$Graph", "classCount", "I", false)
  | 6 => ("EqualTerms$Graph", "names", "[I", true)
  | _ => ("EqualTerms$Graph", "numbers", "[I", true)
def ft_G : Nat → FieldType := fun k => match k with
  | 0 => .array .int
  | 1 => .array .int
  | 2 => .array .int
  | 3 => .array .int
  | 4 => .int
  | 5 => .int
  | 6 => .array .int
  | _ => .array .int
theorem nm_G : ∀ a, a < 8 → ∀ b, b < 8 → a ≠ b → (F_G a).2.1 ≠ (F_G b).2.1 := by decide +kernel
theorem ty_G : ∀ k, k < 8 → parseFieldDescriptor (F_G k).2.2.1 = some (ft_G k) := by decide +kernel
theorem in_G : ∀ w ∈ u_ws "EqualTerms$Graph" F_G 8, w ∈ et_W := et_ins [132, 134, 136, 138, 140, 142, 144, 146] (by decide +kernel) (by decide +kernel)
def F_R : u_T := fun k => match k with
  | 0 => ("EqualTerms$Round", "changed", "Z", false)
  | 1 => ("EqualTerms$Round", "graph", "LEqualTerms$Graph;", true)
  | 2 => ("EqualTerms$Round", "walk", "LEqualTerms$Walk;", true)
  | 3 => ("EqualTerms$Round", "seats", "[I", true)
  | 4 => ("EqualTerms$Round", "listed", "[I", true)
  | _ => ("EqualTerms$Round", "begins", "[I", true)
def ft_R : Nat → FieldType := fun k => match k with
  | 0 => .boolean
  | 1 => .object "EqualTerms$Graph"
  | 2 => .object "EqualTerms$Walk"
  | 3 => .array .int
  | 4 => .array .int
  | _ => .array .int
theorem nm_R : ∀ a, a < 6 → ∀ b, b < 6 → a ≠ b → (F_R a).2.1 ≠ (F_R b).2.1 := by decide +kernel
theorem ty_R : ∀ k, k < 6 → parseFieldDescriptor (F_R k).2.2.1 = some (ft_R k) := by decide +kernel
theorem in_R : ∀ w ∈ u_ws "EqualTerms$Round" F_R 6, w ∈ et_W := et_ins [179, 181, 183, 185, 187, 189] (by decide +kernel) (by decide +kernel)
def F_U : u_T := fun k => match k with
  | 0 => ("EqualTerms$Rule", "characters", "[I", true)
  | 1 => ("EqualTerms$Rule", "middle", "I", true)
  | 2 => ("EqualTerms$Rule", "secondPart", "[I", true)
  | _ => ("EqualTerms$Rule", "binds", "[Z", true)
def ft_U : Nat → FieldType := fun k => match k with
  | 0 => .array .int
  | 1 => .int
  | 2 => .array .int
  | _ => .array .boolean
theorem nm_U : ∀ a, a < 4 → ∀ b, b < 4 → a ≠ b → (F_U a).2.1 ≠ (F_U b).2.1 := by decide +kernel
theorem ty_U : ∀ k, k < 4 → parseFieldDescriptor (F_U k).2.2.1 = some (ft_U k) := by decide +kernel
theorem in_U : ∀ w ∈ u_ws "EqualTerms$Rule" F_U 4, w ∈ et_W := et_ins [445, 447, 449, 451] (by decide +kernel) (by decide +kernel)
def F_T : u_T := fun k => match k with
  | 0 => ("EqualTerms$Text", "characters", "[I", true)
  | 1 => ("EqualTerms$Text", "size", "I", false)
  | 2 => ("EqualTerms$Text", "middle", "I", false)
  | _ => ("EqualTerms$Text", "wrongPlace", "I", false)
def ft_T : Nat → FieldType := fun k => match k with
  | 0 => .array .int
  | 1 => .int
  | 2 => .int
  | _ => .int
theorem nm_T : ∀ a, a < 4 → ∀ b, b < 4 → a ≠ b → (F_T a).2.1 ≠ (F_T b).2.1 := by decide +kernel
theorem ty_T : ∀ k, k < 4 → parseFieldDescriptor (F_T k).2.2.1 = some (ft_T k) := by decide +kernel
theorem in_T : ∀ w ∈ u_ws "EqualTerms$Text" F_T 4, w ∈ et_W := et_ins [94, 96, 98, 100] (by decide +kernel) (by decide +kernel)
def F_K : u_T := fun k => match k with
  | 0 => ("EqualTerms$Walk", "variables", "[I", true)
  | 1 => ("EqualTerms$Walk", "graph", "LEqualTerms$Graph;", true)
  | _ => ("EqualTerms$Walk", "stack", "[I", true)
def ft_K : Nat → FieldType := fun k => match k with
  | 0 => .array .int
  | 1 => .object "EqualTerms$Graph"
  | _ => .array .int
theorem nm_K : ∀ a, a < 3 → ∀ b, b < 3 → a ≠ b → (F_K a).2.1 ≠ (F_K b).2.1 := by decide +kernel
theorem ty_K : ∀ k, k < 3 → parseFieldDescriptor (F_K k).2.2.1 = some (ft_K k) := by decide +kernel
theorem in_K : ∀ w ∈ u_ws "EqualTerms$Walk" F_K 3, w ∈ et_W := et_ins [159, 161, 163] (by decide +kernel) (by decide +kernel)
def F_E : u_T := fun k => match k with
  | 0 => ("EqualTerms", "text", "LEqualTerms$Text;", true)
  | 1 => ("EqualTerms", "graph", "LEqualTerms$Graph;", true)
  | 2 => ("EqualTerms", "walk", "LEqualTerms$Walk;", true)
  | 3 => ("EqualTerms", "round", "LEqualTerms$Round;", true)
  | 4 => ("EqualTerms", "cheapest", "LEqualTerms$Cheapest;", true)
  | 5 => ("EqualTerms", "ruleRow", "[LEqualTerms$Rule;", true)
  | _ => ("EqualTerms", "ruleCount", "I", false)
def ft_E : Nat → FieldType := fun k => match k with
  | 0 => .object "EqualTerms$Text"
  | 1 => .object "EqualTerms$Graph"
  | 2 => .object "EqualTerms$Walk"
  | 3 => .object "EqualTerms$Round"
  | 4 => .object "EqualTerms$Cheapest"
  | 5 => .array (.object "EqualTerms$Rule")
  | _ => .int
theorem nm_E : ∀ a, a < 7 → ∀ b, b < 7 → a ≠ b → (F_E a).2.1 ≠ (F_E b).2.1 := by decide +kernel
theorem ty_E : ∀ k, k < 7 → parseFieldDescriptor (F_E k).2.2.1 = some (ft_E k) := by decide +kernel
theorem in_E : ∀ w ∈ u_ws "EqualTerms" F_E 7, w ∈ et_W := et_ins [236, 238, 240, 242, 244, 246, 248] (by decide +kernel) (by decide +kernel)
def F_M : u_T := fun k => match k with
  | 0 => ("EqualTermsModel", "thrown", "I", false)
  | 1 => ("EqualTermsModel", "text", "[I", true)
  | 2 => ("EqualTermsModel", "length", "I", false)
  | 3 => ("EqualTermsModel", "at", "I", false)
  | 4 => ("EqualTermsModel", "wrong", "I", false)
  | 5 => ("EqualTermsModel", "end", "I", false)
  | 6 => ("EqualTermsModel", "allowed", "I", false)
  | 7 => ("EqualTermsModel", "seen", "I", false)
  | 8 => ("EqualTermsModel", "rules", "I", false)
  | 9 => ("EqualTermsModel", "sides", "[I", true)
  | 10 => ("EqualTermsModel", "sizes", "[I", true)
  | 11 => ("EqualTermsModel", "nodes", "I", false)
  | 12 => ("EqualTermsModel", "classes", "I", false)
  | 13 => ("EqualTermsModel", "sign", "[I", true)
  | 14 => ("EqualTermsModel", "first", "[I", true)
  | 15 => ("EqualTermsModel", "second", "[I", true)
  | 16 => ("EqualTermsModel", "owner", "[I", true)
  | 17 => ("EqualTermsModel", "label", "[I", true)
  | 18 => ("EqualTermsModel", "renamed", "[I", true)
  | 19 => ("EqualTermsModel", "united", "Z", false)
  | 20 => ("EqualTermsModel", "row", "[I", true)
  | 21 => ("EqualTermsModel", "rowSize", "I", false)
  | 22 => ("EqualTermsModel", "variable", "[I", true)
  | 23 => ("EqualTermsModel", "leaf", "[I", true)
  | 24 => ("EqualTermsModel", "unary", "[I", true)
  | 25 => ("EqualTermsModel", "binary", "[I", true)
  | 26 => ("EqualTermsModel", "prices", "[I", true)
  | 27 => ("EqualTermsModel", "cost", "[J", true)
  | 28 => ("EqualTermsModel", "size", "[J", true)
  | 29 => ("EqualTermsModel", "best", "[I", true)
  | 30 => ("EqualTermsModel", "draft", "[I", true)
  | 31 => ("EqualTermsModel", "draftCost", "J", false)
  | _ => ("EqualTermsModel", "draftSize", "J", false)
def ft_M : Nat → FieldType := fun k => match k with
  | 0 => .int
  | 1 => .array .int
  | 2 => .int
  | 3 => .int
  | 4 => .int
  | 5 => .int
  | 6 => .int
  | 7 => .int
  | 8 => .int
  | 9 => .array .int
  | 10 => .array .int
  | 11 => .int
  | 12 => .int
  | 13 => .array .int
  | 14 => .array .int
  | 15 => .array .int
  | 16 => .array .int
  | 17 => .array .int
  | 18 => .array .int
  | 19 => .boolean
  | 20 => .array .int
  | 21 => .int
  | 22 => .array .int
  | 23 => .array .int
  | 24 => .array .int
  | 25 => .array .int
  | 26 => .array .int
  | 27 => .array .long
  | 28 => .array .long
  | 29 => .array .int
  | 30 => .array .int
  | 31 => .long
  | _ => .long
theorem nm_M : ∀ a, a < 33 → ∀ b, b < 33 → a ≠ b → (F_M a).2.1 ≠ (F_M b).2.1 := by decide +kernel
theorem ty_M : ∀ k, k < 33 → parseFieldDescriptor (F_M k).2.2.1 = some (ft_M k) := by decide +kernel
theorem in_M : ∀ w ∈ u_ws "EqualTermsModel" F_M 33, w ∈ et_W := et_ins [711, 713, 715, 717, 719, 721, 723, 725, 727, 729, 731, 733, 735, 737, 739, 741, 743, 745, 747, 749, 751, 753, 755, 757, 759, 761, 763, 765, 767, 769, 771, 773, 775] (by decide +kernel) (by decide +kernel)
abbrev et_cl : List vw_C := [("EqualTerms$Cheapest", F_C, 6), ("EqualTerms$Graph", F_G, 8), ("EqualTerms$Round", F_R, 6), ("EqualTerms$Rule", F_U, 4), ("EqualTerms$Text", F_T, 4), ("EqualTerms$Walk", F_K, 3), ("EqualTerms", F_E, 7), ("EqualTermsModel", F_M, 33)]
def et_Rn : String := "EqualTerms$Rule"
def et_tys (dA : Nat → ClassId) : List (ClassId × FieldType) := [(dA 0, .int), (dA 1, .long), (dA 2, .boolean), (dA 3, .object "EqualTerms$Rule"), (dA 4, .array .int)]
def et_isN (w : Cond) : Bool := match w with | .fieldLinkNest .. => true | .methodLinkNest .. => true | .castable .. => true | .declares _ => true | _ => false
def et_NST : List Cond := [.methodLinkNest "EqualTerms" 9 ⟨"EqualTerms$Text", "<init>", "()V"⟩ "EqualTerms", .methodLinkNest "EqualTerms" 18 ⟨"EqualTerms$Graph", "<init>", "()V"⟩ "EqualTerms", .castable "java/lang/IllegalArgumentException" "java/lang/IllegalArgumentException", .declares ⟨"java/lang/RuntimeException", "<init>", "()V"⟩, .declares ⟨"java/lang/RuntimeException", "<init>", "(Ljava/lang/String;)V"⟩, .declares ⟨"java/lang/Exception", "<init>", "()V"⟩, .declares ⟨"java/lang/Exception", "<init>", "(Ljava/lang/String;)V"⟩, .declares ⟨"java/lang/Throwable", "<init>", "()V"⟩, .declares ⟨"java/lang/Throwable", "<init>", "(Ljava/lang/String;)V"⟩, .castable "java/lang/IllegalStateException" "java/lang/IllegalStateException", .castable "[I" "java/lang/Cloneable"]
theorem et_NST_ok : ∀ w ∈ et_NST, et_isN w = true := by decide +kernel
theorem et_NST_in : ∀ w ∈ et_NST, w ∈ lw_tbl := by decide +kernel
def et_STR : List (String × Nat × String) := [("EqualTerms", 81, "the text is no rule"), ("EqualTerms", 88, "there are six rules"), ("EqualTerms", 192, "the text is no term"), ("EqualTerms", 111, "there is no room for the term"), ("EqualTerms", 197, "the text is not two terms"), ("EqualTerms", 119, "there is no room for the terms"), ("EqualTerms", 134, "no sign of a term"), ("EqualTerms", 137, "no price"), ("EqualTerms", 142, "no number of rounds")]
theorem et_STR_in : ∀ q ∈ et_STR, Cond.stringRef q.1 q.2.1 q.2.2 ∈ lw_tbl := by decide +kernel
def et_AOS : List String := ["EqualTerms$Rule"]
def et_exn (k : Nat) : String := match k with | 0 => "java/lang/IllegalArgumentException" | _ => "java/lang/IllegalStateException"
def et_SW : List Cond := [.laysStatic "java/lang/Throwable" "UNASSIGNED_STACK" "[Ljava/lang/StackTraceElement;", .isRef (.static "java/lang/Throwable" "UNASSIGNED_STACK" "[Ljava/lang/StackTraceElement;"), .laysStatic "java/lang/Throwable" "SUPPRESSED_SENTINEL" "Ljava/util/List;", .isRef (.static "java/lang/Throwable" "SUPPRESSED_SENTINEL" "Ljava/util/List;")]
end
section
/-! ===== my contract: a method that returns or throws ===== -/
def et_Q (below : List Frame) (Qc : Array Value → State → Outcome → State → Prop) (a : Array Value) (s : State) (mc ms : Nat) (free : Addr → Prop) : State → Prop := fun t =>
  ∃ o, t.status = .running ∧ Ended t below o ∧ Qc a s o t ∧ s.WarmedH t.vm ∧ ∃ L, s.sameButNew ({ t with vm := s.vm } : State) L mc ms ∧ ∀ q ∈ L, free q.base
def et_Met (l : Launch) (y : MethodName) (ws : List Cond) (rm : Room) (Pc : Array Value → State → Prop) (Qc : Array Value → State → Outcome → State → Prop) (mc ms : Nat) (free : Addr → Prop) : Prop :=
  MetFree l y (headSpec ws rm) Pc (fun _ _ _ _ _ => True) (fun a st o t => Qc a st o t ∧ st.WarmedH t.vm ∧ ∃ L, st.sameButNew ({ t with vm := st.vm } : State) L mc ms ∧ ∀ q ∈ L, free q.base)
theorem et_Q_of {below : List Frame} {Qc : Array Value → State → Outcome → State → Prop} {a : Array Value} {s : State} {mc ms : Nat} {free : Addr → Prop} {t : State} (h : MQ below Qc a s mc ms free t) : et_Q below Qc a s mc ms free t := by
  obtain ⟨o, h1, h2, h3, L, ⟨-, hW, hs⟩, hf⟩ := h
  exact ⟨o, h1, h2, h3, hW, L, hs, hf⟩
/-- the word of a method's code, with or without handlers -/
def et_cw (y : MethodName) (cc : ByteArray) (nL : Nat) (ret : Option FieldType) (hh : List (Nat × Nat × Nat × Nat)) : Cond := match hh with
  | [] => .code y cc nL ret
  | _ :: _ => .codeWith y cc nL ret hh
theorem et_cw_spec {y : MethodName} {cc : ByteArray} {nL : Nat} {ret : Option FieldType} {hh : List (Nat × Nat × Nat × Nat)} {args : Array Value} {s : State} {m : MethodId} (hn : s.methodNamed? y = some m) (h : (et_cw y cc nL ret hh).before args s = true) :
    ∃ meth c, s.vm.method? m = some meth ∧ meth.code = some c ∧ c.code = cc ∧ c.maxLocals = nL ∧ meth.sig.returnType = ret ∧ meth.locks = false ∧ c.exceptionTable.toList.map (fun h => (h.startPc, h.endPc, h.handlerPc, h.catchType)) = hh ∧ parseMethodDescriptor y.desc = some meth.sig := by
  cases hh with
  | nil =>
    obtain ⟨meth, c, h1, h2, h3, h4, h5, h6, h7, h8⟩ := Cond.code_spec hn h
    have h9 : c.exceptionTable = #[] := by simpa using h7
    exact ⟨meth, c, h1, h2, h3, h4, h5, h6, by simp [h9], h8⟩
  | cons x r =>
    obtain ⟨m9, meth, c, hn9, h1, h2, h3, h4, h7, h5, h6, h8⟩ := Cond.codeWith_spec h
    cases hn.symm.trans hn9
    exact ⟨meth, c, h1, h2, h3, h4, h5, h6, h7, h8⟩
theorem et_MetW {l : Launch} {y : MethodName} {ws : List Cond} {rm : Room} {Pc : Array Value → State → Prop} {Qc : Array Value → State → Outcome → State → Prop} {mc ms : Nat} {free : Addr → Prop} {cc : ByteArray} {nL : Nat} {ret : Option FieldType} {hh : List (Nat × Nat × Nat × Nat)}
    (hy : plainName y.cls = true) (hw : et_cw y cc nL ret hh ∈ ws)
    (body : ∀ p e s m args below meth c s₁, BodyLoose p l y (headSpec ws rm) cc nL ret e s m args below meth c s₁ → c.maxLocals = nL → c.exceptionTable.toList.map (fun h => (h.startPc, h.endPc, h.handlerPc, h.catchType)) = hh → Pc args s →
      W p l e (headSpec ws rm).room s m args below meth c s.heap [] 0 0 (et_Q below Qc args s mc ms free) (entryFrame m args nL)) : et_Met l y ws rm Pc Qc mc ms free := by
  refine MetFree.of_bodyS (code := cc) (maxLocals := nL) (ret := ret) hy ?_ ?_
  · intro args s m h hn
    obtain ⟨meth, c, h1, h2, h3, h4, h5, h6, -, -⟩ := et_cw_spec hn (atoms_spec (ws := ws) h _ hw)
    exact ⟨meth, c, h1, h2, h3, h4, h5, h6⟩
  · intro p e s m args below meth c s₁ B hml hP _
    have hh0 : s₁.heap = s.heap := by rw [B.state]; rfl
    obtain ⟨meth', c', h1, h2, -, -, -, -, h7, -⟩ := et_cw_spec B.named (atoms_spec (ws := ws) B.pre _ hw)
    cases B.method.symm.trans h1
    cases (Stand.of_body B).code.symm.trans h2
    obtain ⟨t, a1, o, b1, b2, b3, b4, b5⟩ := body p e s m args below meth c s₁ B hml h7 hP s₁ hh0 (Stand.of_body B)
    exact ⟨t, o, a1, b1, b2, b3, b4, b5⟩
section ETC
variable {p : Program} {l : Launch} {e : Env} {R : Room} {s : State} {m : MethodId} {args : Array Value} {below : List Frame} {meth : Method} {c : Code} {T : State} {locs : List Loc} {cells slots : Nat}
theorem et_mono {H : Heap} {Q Q' : State → Prop} {g : JFrame} (h : ∀ t, Q t → Q' t) (k : W p l e R s m args below meth c H locs cells slots Q g) : W p l e R s m args below meth c H locs cells slots Q' g := fun T hT X => by
  obtain ⟨t, a, b⟩ := k T hT X
  exact ⟨t, a, h t b⟩
/-- a call of a method by its contract, from the point where it is invoked -/
theorem et_call {y : MethodName} {ws : List Cond} {rm : Room} {Pc : Array Value → State → Prop} {Qc : Array Value → State → Outcome → State → Prop} {mc ms : Nat} {free : Addr → Prop}
    (X : Stand p l e R s m args below meth c T locs cells slots) (hM : et_Met l y ws rm Pc Qc mc ms free)
    {g : JFrame} (hg : g.method = m) (hsize : g.locals.size = c.maxLocals) {ig : Instr} {len : Nat} (hdg : decode c.code g.pc = .ok (ig, len))
    {mk : MethodId} (hn : T.methodNamed? y = some mk) (a : Array Value) {methY : Method} {cY : Code} (hmY : T.vm.method? mk = some methY) (hcY : methY.code = some cY)
    (hini : (Cond.initialized y.cls).before a T = true) (hws : ∀ w ∈ ws, w.before a T = true)
    (hfr : rm.frames + 1 ≤ R.frames) (hlo : 2 * g.monitorRoom + (g.stack.map fun v => v.category).sum + (cY.maxLocals + 11) + rm.locals ≤ R.locals)
    (hc : cells + rm.cells ≤ R.cells) (hs : slots + rm.slots ≤ R.slots) (hP : Pc a (T.calling g mk a)) :
    ∃ (o : Outcome) (t T' : State) (L : List Loc), Stand p l e R s m args below meth c T' (locs ++ L) (cells + mc) (slots + ms) ∧ (∀ q ∈ L, free q.base) ∧ T'.heap = t.heap ∧ T'.vm = t.vm ∧ Qc a (T.calling g mk a) o t ∧
      ((∃ v, o = .returned v ∧ Steps p.tables e below (doInvoke e (T.setTop g) [] mk a).1 (T'.setTop { g with pc := g.pc + len, stack := v.toList ++ g.stack })) ∨
       (∃ x, o = .threw x ∧ Steps p.tables e below (doInvoke e (T.setTop g) [] mk a).1 ((T'.setTop g).pushFrame (.throwing x)))) := by
  obtain ⟨kY, hkY, -⟩ := className_of_methodNamed hn
  have hinitY : kY.init = .initialized := Cond.initialized_spec (findClass_of_methodNamed hn) hkY hini
  have h : At T g.method c below := by rw [hg]; exact X.here
  have happ : (headSpec ws rm).appliesLoose y e.platform (T.calling g mk a) = true :=
    Spec.appliesLoose_calling (g := g) h hdg hn hkY hinitY (X.room_calling (g := g) (R' := rm) hsize hmY hcY hfr hlo hc hs) (atoms_intro hws)
  obtain ⟨mid, hmid⟩ := h.above
  have hfr2 : (T.setTop g).frames = (.java g :: mid) ++ below := by rw [State.frames_setTop' g h.top, hmid]; rfl
  obtain ⟨o, s₂, hsteps, hrun, hend, hq⟩ := Steps.callFree hM p X.admits X.cas X.clock (acts := []) hfr2 happ hP trivial
  rw [State.frames_setTop' g h.top, X.tail] at hend
  obtain ⟨hq1, hW, L, hsame, hL⟩ := hq
  cases o with
  | returned v =>
    obtain ⟨T', X', -, -, ht⟩ := X.outOf hg hdg (mk := mk) (a := a) hend hW hsame
    exact ⟨.returned v, s₂, T', L, X', hL, by rw [ht]; rfl, by rw [ht]; rfl, hq1, Or.inl ⟨v, rfl, by rw [← ht]; exact hsteps⟩⟩
  | threw x =>
    obtain ⟨T', X', -, -, ht⟩ := X.outOfThrown hg (mk := mk) (a := a) hend hW hsame
    exact ⟨.threw x, s₂, T', L, X', hL, by rw [ht]; rfl, by rw [ht]; rfl, hq1, Or.inr ⟨x, rfl, by rw [← ht]; exact hsteps⟩⟩
/-- a call that has been walked: it comes back with an answer, or the exception lies over the caller's frame -/
def et_Run (p : Program) (l : Launch) (e : Env) (R : Room) (s : State) (m : MethodId) (args : Array Value) (below : List Frame) (meth : Method) (c : Code) (H : Heap) (locs : List Loc) (cells slots mc ms : Nat) (g : JFrame) (rest : List Value) (Qa : State → Outcome → State → Prop) (free : Addr → Prop) : Prop :=
  ∀ T : State, T.heap = H → Stand p l e R s m args below meth c T locs cells slots → ∃ (o : Outcome) (st₀ t T' : State) (L : List Loc), st₀.heap = H ∧ Stand p l e R s m args below meth c T' (locs ++ L) (cells + mc) (slots + ms) ∧ (∀ q ∈ L, free q.base) ∧ T'.heap = t.heap ∧ T'.vm = t.vm ∧ Qa st₀ o t ∧
    ((∃ v, o = .returned v ∧ ∀ tg, Steps p.tables e below (T'.setTop { g with pc := g.pc + 3, stack := v.toList ++ rest }) tg → Steps p.tables e below (T.setTop g) tg) ∨
     (∃ x, o = .threw x ∧ ∀ tg, Steps p.tables e below ((T'.setTop { g with stack := rest }).pushFrame (.throwing x)) tg → Steps p.tables e below (T.setTop g) tg))
/-- what a call asks of its callee -/
def et_CB (l : Launch) (R : Room) (s : State) (args : Array Value) (H : Heap) (y : MethodName) (cY : ByteArray) (nY : Nat) (ret : Option FieldType) (hh : List (Nat × Nat × Nat × Nat)) (ws : List Cond) (rm : Room) (Pc : Array Value → State → Prop) (Qc : Array Value → State → Outcome → State → Prop) (mc ms : Nat) (free : Addr → Prop) (aa : Array Value) : Prop :=
  et_Met l y ws rm Pc Qc mc ms free ∧ rm.cells = mc ∧ rm.slots = ms ∧ rm.frames + 1 ≤ R.frames ∧ 8 + (nY + 11) + rm.locals ≤ R.locals ∧ (∀ w ∈ ws, ∀ (a' : Array Value) (U : State), s.WarmedH U.vm → w.before a' U = true) ∧ (et_cw y cY nY ret hh).before args s = true ∧ (Cond.initialized y.cls).before args s = true ∧
  (∀ (U : State) (g : JFrame) (mk : MethodId), U.heap = H → s.WarmedH U.vm → Pc aa (U.calling g mk aa))
theorem et_tail {H : Heap} {y : MethodName} {cY : ByteArray} {nY : Nat} {ret : Option FieldType} {hh : List (Nat × Nat × Nat × Nat)} {ws : List Cond} {rm : Room} {Pc : Array Value → State → Prop} {Qc : Array Value → State → Outcome → State → Prop} {mc ms : Nat} {free : Addr → Prop} {aa : Array Value}
    (K : et_CB l R s args H y cY nY ret hh ws rm Pc Qc mc ms free aa) (hT : T.heap = H) {vm₁ : Vm} (X : Stand p l e R s m args below meth c (T.setVm vm₁) locs cells slots) {mk : MethodId} (hn : s.methodNamed? y = some mk)
    {g : JFrame} {rest : List Value} (hg : g.method = m) (hsize : g.locals.size = c.maxLocals) (hW : 2 * g.monitorRoom + (rest.map fun v => v.category).sum ≤ 8) {ig : Instr} (hdg : decode c.code g.pc = .ok (ig, 3))
    (hf : cells + mc ≤ R.cells ∧ slots + ms ≤ R.slots)
    (hstep : ∀ target, (∀ acts, Steps p.tables e below (doInvoke e ((T.setVm vm₁).setTop { g with stack := rest }) acts mk aa).1 target) → Steps p.tables e below (T.setTop g) target) :
    ∃ (o : Outcome) (st₀ t T' : State) (L : List Loc), st₀.heap = H ∧ Stand p l e R s m args below meth c T' (locs ++ L) (cells + mc) (slots + ms) ∧ (∀ q ∈ L, free q.base) ∧ T'.heap = t.heap ∧ T'.vm = t.vm ∧ Qc aa st₀ o t ∧
    ((∃ v, o = .returned v ∧ ∀ tg, Steps p.tables e below (T'.setTop { g with pc := g.pc + 3, stack := v.toList ++ rest }) tg → Steps p.tables e below (T.setTop g) tg) ∨
     (∃ x, o = .threw x ∧ ∀ tg, Steps p.tables e below ((T'.setTop { g with stack := rest }).pushFrame (.throwing x)) tg → Steps p.tables e below (T.setTop g) tg)) := by
  obtain ⟨hM, hrc, hrs, hfr, hlo, hws, hcode, hini, hPc⟩ := K
  obtain ⟨methY, cc2, hmY, hcY, -, hnY, -⟩ := et_cw_spec hn hcode
  have hmY' : (T.setVm vm₁).vm.method? mk = some methY := by rw [X.warmed.alike.method?]; exact hmY
  have hini' : (Cond.initialized y.cls).before aa (T.setVm vm₁) = true := word_at X.warmed (Or.inl (by first | rfl | simp [Cond.onTables, Cond.keeps, Cond.steady])) hini
  obtain ⟨o, t, T', L, X', hL, e1, e2, hq, hd⟩ := et_call (g := { g with stack := rest }) X hM hg hsize (ig := ig) (len := 3) hdg (X.named hn) aa hmY' hcY hini' (fun w hw => hws w hw aa _ X.warmed) hfr (by rw [hnY]; show 2 * g.monitorRoom + (rest.map fun v => v.category).sum + (nY + 11) + rm.locals ≤ R.locals; omega) (by rw [hrc]; exact hf.1) (by rw [hrs]; exact hf.2) (hPc (T.setVm vm₁) _ mk hT X.warmed)
  refine ⟨o, (T.setVm vm₁).calling { g with stack := rest } mk aa, t, T', L, hT, X', hL, e1, e2, hq, ?_⟩
  rcases hd with ⟨v, h1, h2⟩ | ⟨x, h1, h2⟩
  · exact Or.inl ⟨v, h1, fun tg h => hstep _ fun acts => by rw [doInvoke_state]; exact h2.trans h⟩
  · exact Or.inr ⟨x, h1, fun tg h => hstep _ fun acts => by rw [doInvoke_state]; exact h2.trans h⟩
variable {H : Heap} {y : MethodName} {cY : ByteArray} {nY : Nat} {ret : Option FieldType} {hh : List (Nat × Nat × Nat × Nat)} {ws : List Cond} {rm : Room} {Pc : Array Value → State → Prop} {Qc : Array Value → State → Outcome → State → Prop} {mc ms : Nat} {free : Addr → Prop}
variable {own C host : String} {index : Nat} {cc : ByteArray} {b : Addr} {As rest : List Value} {g : JFrame}
theorem et_runV (hexec : p.tables.exec = Jvm.exec) (hb : c.code = cc) (hown : s.vm.findClass own = some m.cls) (K : et_CB l R s args H y cY nY ret hh ws rm Pc Qc mc ms free (Value.ref b :: As).toArray)
    (hlink : (Cond.methodLink own index y).before args s = true ∨ (Cond.methodLinkNest own index y host).before args s = true) (hinst : (Cond.instanceMethod y).before args s = true) (hsel : (Cond.selects C y y).before args s = true) (hy : y.cls ≠ "java/lang/invoke/MethodHandle" ∧ y.cls ≠ "java/lang/invoke/VarHandle")
    (hrecv : ∃ cellB : Cell, H[b]? = some cellB ∧ cellB.vm.isStatics = false ∧ s.vm.findClass C = some cellB.cls)
    (hg : g.method = m) (hlen : (parseMethodDescriptor y.desc).map (fun d => d.parameters.length) = some As.length) (hsize : g.locals.size = c.maxLocals) (hstack : g.stack = As.reverse ++ .ref b :: rest) (hW : 2 * g.monitorRoom + (rest.map fun v => v.category).sum ≤ 8) (hdg : decode cc g.pc = .ok (.invokevirtual index, 3)) (hf : cells + mc ≤ R.cells ∧ slots + ms ≤ R.slots) :
    et_Run p l e R s m args below meth c H locs cells slots mc ms g rest (Qc (Value.ref b :: As).toArray) free := by
  intro T hT X
  obtain ⟨mk, methM, hnamed, hmethM, hstM, habM⟩ := Cond.instanceMethod_spec hinst
  have hcode := K.2.2.2.2.2.2.1
  obtain ⟨methM', cM, hmethM', -, -, -, -, -, -, hsigM⟩ := et_cw_spec hnamed hcode
  cases hmethM.symm.trans hmethM'
  obtain ⟨cellB, hcell, hobj, hcls⟩ := hrecv
  obtain ⟨c2, r2, m2, q1, q2, q3, q4, kP, hkP, hkPi⟩ := Cond.selects_spec hsel
  cases hcls.symm.trans q1
  cases (State.methodFound?_of_named hnamed hy).symm.trans q2
  cases hnamed.symm.trans q3
  have hselP : selectMethod e.platform s.vm cellB.cls mk = .method mk := by rw [Launch.admits_selectMethod X.admits]; exact q4
  have hl2 : As.length = methM.sig.parameters.length := by
    rw [hsigM] at hlen
    exact (Option.some.inj hlen).symm
  have hcell' : T.heap[b]? = some cellB := by rw [hT]; exact hcell
  have hdg' : decode c.code g.pc = .ok (.invokevirtual index, 3) := by rw [hb]; exact hdg
  rcases hlink with hlink | hlink
  · obtain ⟨vm₁, X₁, hstep₁⟩ := X.invokevirtual hexec hown hlink hnamed hmethM hstM hkP hkPi hy (a := b) (cell := cellB) hcell' (fun z h => by rw [h] at hobj; cases hobj) hselP hmethM habM hkP hkPi (g := g) hg (argsL := As) (rest := rest) hl2 hstack hdg'
    exact et_tail K hT X₁ hnamed hg hsize hW hdg' hf hstep₁
  · obtain ⟨vm₁, X₁, hstep₁⟩ := X.invokevirtualNest hexec hown hlink hnamed hmethM hstM hkP hkPi hy (a := b) (cell := cellB) hcell' (fun z h => by rw [h] at hobj; cases hobj) hselP hmethM habM hkP hkPi (g := g) hg (argsL := As) (rest := rest) hl2 hstack hdg'
    exact et_tail K hT X₁ hnamed hg hsize hW hdg' hf hstep₁
theorem et_runS (hexec : p.tables.exec = Jvm.exec) (hb : c.code = cc) (hown : s.vm.findClass own = some m.cls) (K : et_CB l R s args H y cY nY ret hh ws rm Pc Qc mc ms free As.toArray)
    (hlink : (Cond.methodLink own index y).before args s = true ∨ (Cond.methodLinkNest own index y host).before args s = true) (hstat : (Cond.static y).before args s = true) (hy : y.cls ≠ "java/lang/invoke/MethodHandle" ∧ y.cls ≠ "java/lang/invoke/VarHandle") (hnm : ∃ mk, s.methodNamed? y = some mk)
    (hg : g.method = m) (hlen : (parseMethodDescriptor y.desc).map (fun d => d.parameters.length) = some As.length) (hsize : g.locals.size = c.maxLocals) (hstack : g.stack = As.reverse ++ rest) (hW : 2 * g.monitorRoom + (rest.map fun v => v.category).sum ≤ 8) (hdg : decode cc g.pc = .ok (.invokestatic index, 3)) (hf : cells + mc ≤ R.cells ∧ slots + ms ≤ R.slots) :
    et_Run p l e R s m args below meth c H locs cells slots mc ms g rest (Qc As.toArray) free := by
  intro T hT X
  obtain ⟨mk, hnamed⟩ := hnm
  have hcode := K.2.2.2.2.2.2.1
  have hini := K.2.2.2.2.2.2.2.1
  obtain ⟨methM, cM, hmethM, -, -, -, -, -, -, hsigM⟩ := et_cw_spec hnamed hcode
  have hstatic : methM.isStatic = true := Cond.static_spec hnamed hmethM hstat
  obtain ⟨kP, hkP, -⟩ := className_of_methodNamed hnamed
  have hinitP : kP.init = .initialized := Cond.initialized_spec (findClass_of_methodNamed hnamed) hkP hini
  have hl2 : As.length = methM.sig.parameters.length := by
    rw [hsigM] at hlen
    exact (Option.some.inj hlen).symm
  have hdg' : decode c.code g.pc = .ok (.invokestatic index, 3) := by rw [hb]; exact hdg
  rcases hlink with hlink | hlink
  · obtain ⟨vm₁, X₁, hstep₁⟩ := X.invokestatic hexec hown hlink hnamed hmethM hstatic hkP hinitP hy (g := g) hg (argsL := As) (rest := rest) hl2 hstack hdg'
    exact et_tail K hT X₁ hnamed hg hsize hW hdg' hf hstep₁
  · obtain ⟨vm₁, X₁, hstep₁⟩ := X.invokestaticNest hexec hown hlink hnamed hmethM hstatic hkP hinitP hy (g := g) hg (argsL := As) (rest := rest) hl2 hstack hdg'
    exact et_tail K hT X₁ hnamed hg hsize hW hdg' hf hstep₁
theorem et_runI (hexec : p.tables.exec = Jvm.exec) (hb : c.code = cc) (hown : s.vm.findClass own = some m.cls) (K : et_CB l R s args H y cY nY none [] ws rm Pc Qc mc ms free (Value.ref b :: As).toArray)
    (hlink : (Cond.methodLink own index y).before args s = true ∨ (Cond.methodLinkNest own index y host).before args s = true) (hinst : (Cond.instanceMethod y).before args s = true) (hy1 : y.name = "<init>") (hy : y.cls ≠ "java/lang/invoke/MethodHandle" ∧ y.cls ≠ "java/lang/invoke/VarHandle")
    (hg : g.method = m) (hlen : (parseMethodDescriptor y.desc).map (fun d => d.parameters.length) = some As.length) (hsize : g.locals.size = c.maxLocals) (hstack : g.stack = As.reverse ++ .ref b :: rest) (hW : 2 * g.monitorRoom + (rest.map fun v => v.category).sum ≤ 8) (hdg : decode cc g.pc = .ok (.invokespecial index, 3)) (hf : cells + mc ≤ R.cells ∧ slots + ms ≤ R.slots) :
    et_Run p l e R s m args below meth c H locs cells slots mc ms g rest (Qc (Value.ref b :: As).toArray) free := by
  intro T hT X
  have hcode : (Cond.code y cY nY none).before args s = true := K.2.2.2.2.2.2.1
  subst hg
  have hpl : e.platform.magicAccessors = ({} : Platform).magicAccessors := by rw [X.admits.platform]
  have hdg' : decode c.code g.pc = .ok (.invokespecial index, 3) := by rw [hb]; exact hdg
  have hl2 : ∀ sig, parseMethodDescriptor y.desc = some sig → As.length = sig.parameters.length := fun sig h => by
    rw [h] at hlen
    exact (Option.some.inj hlen).symm
  rcases hlink with hlink | hlink
  · obtain ⟨mk, methM, cM, kP, vm₁, hnamed, hmethM, hcodeM, -, hlocalsM, -, hkP, -, hW₁, hstep₁⟩ := Steps.initColdArgs (e := e) X.here hexec X.warmed hpl hown hy1 hy hlink hinst hcode (f := g) rfl hl2 hstack hdg'
    exact et_tail K hT (X.noted hW₁) hnamed rfl hsize hW hdg' hf hstep₁
  · obtain ⟨mk, methM, cM, kP, vm₁, hnamed, hmethM, hcodeM, -, hlocalsM, -, hkP, -, hW₁, hstep₁⟩ := Steps.initColdArgsNest (e := e) X.here hexec X.warmed hpl hown hy1 hy hlink hinst hcode (f := g) rfl hl2 hstack hdg'
    exact et_tail K hT (X.noted hW₁) hnamed rfl hsize hW hdg' hf hstep₁
end ETC
end
section
/-! ===== the small machine: cells by numbers from 0 on; a reference k stands for the address B + k ===== -/
abbrev et_MC : Type := (Nat × vp_A) ⊕ (Nat × List Value)
abbrev et_R : Type := Option Value ⊕ Nat
/-- the script: its address, its length, what it holds -/
abbrev et_X : Type := Nat × Nat × (Nat → Int32)
abbrev et_Y : Type := MethodName × ByteArray × Nat × Option FieldType × List (Nat × Nat × Nat × Nat)
def et_em (B : Nat) (v : Value) : Value := match v with
  | .ref a => .ref (B + a)
  | .int x => .int x
  | .long x => .long x
  | .float x => .float x
  | .double x => .double x
  | .null => .null
  | .retAddr x => .ref x
def et_ea (B : Nat) (a : vp_A) : vp_A := (a.1, match a.2 with
  | .inl f => .inl f
  | .inr (.inl f) => .inr (.inl f)
  | .inr (.inr (.inl f)) => .inr (.inr (.inl f))
  | .inr (.inr (.inr (.inl f))) => .inr (.inr (.inr (.inl f)))
  | .inr (.inr (.inr (.inr f))) => .inr (.inr (.inr (.inr (fun j => (f j).map (fun k => B + k))))))
def et_void : et_MC := .inr (1000, [])
theorem et_em_cat (B : Nat) (v : Value) : (et_em B v).category = v.category := by cases v <;> rfl
def et_at (D : va_G) (dA : Nat → ClassId) (B q : Nat) (x : et_MC) (H : Heap) : Prop := match x with
  | .inl a => H[q]? = some (vp_cell (dA a.1) (et_ea B a.2))
  | .inr o => ∃ r : vw_C, et_cl[o.1]? = some r ∧ t_OB q (D.1 o.1) r.2.2 (D.2 o.1) H (vp_V (o.2.map (et_em B)))
def et_HP (D : va_G) (dA : Nat → ClassId) (B : Nat) (h : Nat → et_MC) (n : Nat) (H : Heap) : Prop := H.size = B + n ∧ ∀ k, h k = et_void ∨ (k < n ∧ et_at D dA B (B + k) (h k) H)
theorem et_at.kept {D : va_G} {dA : Nat → ClassId} {B q : Nat} {x : et_MC} {H H1 : Heap} (h : et_at D dA B q x H) (hq : H1[q]? = H[q]?) : et_at D dA B q x H1 := by
  cases x with
  | inl a => exact hq.trans h
  | inr o =>
    obtain ⟨r, h1, h2⟩ := h
    exact ⟨r, h1, h2.kept hq⟩
theorem et_HP.put {D : va_G} {dA : Nat → ClassId} {B n k : Nat} {h : Nat → et_MC} {x : et_MC} {H H1 : Heap} (hP : et_HP D dA B h n H) (hk : k < n) (hx : et_at D dA B (B + k) x H1) (z : H1.size = H.size) (oq : ∀ q : Nat, q ≠ B + k → H1[q]? = H[q]?) : et_HP D dA B (va_up h k x) n H1 := by
  refine ⟨z.trans hP.1, fun j => ?_⟩
  by_cases hj : j = k
  · subst hj
    refine Or.inr ⟨hk, ?_⟩
    simpa [va_up] using hx
  · have e : va_up h k x j = h j := by simp [va_up, hj]
    rw [e]
    rcases hP.2 j with h0 | ⟨h1, h2⟩
    · exact Or.inl h0
    · exact Or.inr ⟨h1, h2.kept (oq _ (by omega))⟩
theorem et_HP.push {D : va_G} {dA : Nat → ClassId} {B n : Nat} {h : Nat → et_MC} {x : et_MC} {H H1 : Heap} (hP : et_HP D dA B h n H) (hx : x = et_void ∨ et_at D dA B (B + n) x H1) (z : H1.size = H.size + 1) (oq : ∀ q : Nat, q < H.size → H1[q]? = H[q]?) : et_HP D dA B (va_up h n x) (n + 1) H1 := by
  refine ⟨by rw [z, hP.1]; omega, fun j => ?_⟩
  by_cases hj : j = n
  · subst hj
    have e : va_up h j x j = x := by simp [va_up]
    rw [e]
    rcases hx with hx | hx
    · exact Or.inl hx
    · exact Or.inr ⟨by omega, hx⟩
  · have e : va_up h n x j = h j := by simp [va_up, hj]
    rw [e]
    rcases hP.2 j with h0 | ⟨h1, h2⟩
    · exact Or.inl h0
    · exact Or.inr ⟨by omega, h2.kept (oq _ (by rw [hP.1]; omega))⟩
theorem et_HP.arr {D : va_G} {dA : Nat → ClassId} {B n k : Nat} {h : Nat → et_MC} {H : Heap} {a : Nat × vp_A} (hP : et_HP D dA B h n H) (hh : h k = .inl a) : k < n ∧ H[B + k]? = some (vp_cell (dA a.1) (et_ea B a.2)) := by
  rcases hP.2 k with h0 | ⟨h1, h2⟩
  · rw [hh] at h0
    cases h0
  · rw [hh] at h2
    exact ⟨h1, h2⟩
theorem et_HP.obj {D : va_G} {dA : Nat → ClassId} {B n k ci : Nat} {h : Nat → et_MC} {H : Heap} {fs : List Value} {r : vw_C} (hP : et_HP D dA B h n H) (hh : h k = .inr (ci, fs)) (hc : et_cl[ci]? = some r) : k < n ∧ t_OB (B + k) (D.1 ci) r.2.2 (D.2 ci) H (vp_V (fs.map (et_em B))) := by
  rcases hP.2 k with h0 | ⟨h1, h2⟩
  · rw [hh] at h0
    have h3 : ci = 1000 := by
      have := Sum.inr.inj h0
      exact (Prod.mk.inj this).1
    subst h3
    have h9 : et_cl[1000]? = none := rfl
    rw [h9] at hc
    cases hc
  · rw [hh] at h2
    obtain ⟨r', h3, h4⟩ := h2
    cases hc.symm.trans h3
    exact ⟨h1, h4⟩
/-- what stays of the machine's tables and of the old heap over a whole run -/
def et_stF (B : Nat) (U : State) (nm d : String) : Prop := ∃ (c : ClassId) (k : Class) (i : Nat) (f : Field) (a : Nat) (cell : Cell) (v : Value), U.vm.findClass "java/lang/Throwable" = some c ∧ U.fieldFound? "java/lang/Throwable" nm d = some (c, k, i, f) ∧ f.isStatic = true ∧ k.statics = some a ∧ a < B ∧ U.heap[a]? = some cell ∧ cell.vm.isStatics = true ∧ cell.cls = c ∧ f.slot < cell.slots.size ∧ k.staticTypes[f.slot]? = some f.type ∧ cell.slots[f.slot]? = some v ∧ v.isRef = true
theorem et_stF.moved {B : Nat} {u U : State} {nm d : String} (hvm : u.vm.Alike U.vm) (hF : ∀ q : Nat, q < B → U.heap[q]? = u.heap[q]?) (h : et_stF B u nm d) : et_stF B U nm d := by
  obtain ⟨c, k, i, f, a, cell, v, h1, h2, h3, h4, h5, h6, h7, h8, h9, h10, h11, h12⟩ := h
  obtain ⟨k', hi', he⟩ := State.fieldFound?_setVm hvm h2
  exact ⟨c, k', i, f, a, cell, v, by rw [hvm.findClass]; exact h1, hi', h3, by rw [he]; exact h4, h5, by rw [hF a h5]; exact h6, h7, h8, h9, by rw [he]; exact h10, h11, h12⟩
def et_Wd (sc : et_X) (B : Nat) (D : va_G) (dA : Nat → ClassId) (U : State) : Prop :=
  va_K D et_cl (et_tys dA) U ∧ (∀ w ∈ et_NST, va_Nw w U) ∧ (et_stF B U "UNASSIGNED_STACK" "[Ljava/lang/StackTraceElement;" ∧ et_stF B U "SUPPRESSED_SENTINEL" "Ljava/util/List;") ∧ (∀ q ∈ et_STR, ∃ a : Nat, vk_R q.1 q.2.1 q.2.2 a U) ∧ (∀ C ∈ et_AOS, va_AO C U) ∧ va_X sc.1 sc.2.1 sc.2.2 U U.heap ∧ sc.1 < B ∧ (∃ kA : Class, U.vm.classes[dA 4]? = some kA ∧ kA.kind = .array (dA 0) (.array .int)) ∧ va_Nc (et_exn 1) (et_exn 0) U
theorem et_Wd.moved {sc : et_X} {B : Nat} {D : va_G} {dA : Nat → ClassId} {u U : State} (hW : u.WarmedH U.vm) (hF : ∀ q : Nat, q < B → U.heap[q]? = u.heap[q]?) (h : et_Wd sc B D dA u) : et_Wd sc B D dA U := by
  obtain ⟨h1, h2, ⟨h3, h4⟩, h5, h6, ⟨scr, g1, g2, g3⟩, h8, ⟨kA, hkA, hkk⟩, h9⟩ := h
  obtain ⟨kA', hkA', heA⟩ := hW.alike.2.2 _ _ hkA
  refine ⟨va_K.moved hW.alike h1, fun w hw => ?_, ⟨h3.moved hW.alike hF, h4.moved hW.alike hF⟩, fun q hq => ?_, fun C hC => (h6 C hC).moved hW.alike, ⟨scr, by rw [hF _ h8]; exact g1, State.isArrayOf_alike hW.alike g2, g3⟩, h8, ⟨kA', hkA', by rw [heA]; exact hkk⟩, va_Nc.moved hW.alike h9⟩
  · have h7 := h2 w hw
    have h8 := et_NST_ok w hw
    cases w <;> first | exact va_Nw.warmF hW h7 | exact va_Nw.warmM hW h7 | exact va_Nw.warmD hW h7 | exact va_tabs (u := u.setVm U.vm) rfl rfl (by rw [Cond.castable_setVm hW.alike]; exact h7) | exact absurd h8 (by simp [et_isN])
  · obtain ⟨a, ha⟩ := h5 q hq
    exact ⟨a, ha.warm hW⟩
def et_rm (d mc ms : Nat) : Room := { frames := 8 + d, cells := mc, slots := ms, locals := 120 + 90 * d }
def et_L (l : Launch) : Prop := ∀ e : Env, l.admits e → e.platform.stackTraces = false
def et_C (sc : et_X) (Y : et_Y) (d mc ms B : Nat) (D : va_G) (dA : Nat → ClassId) (p : Program) (l : Launch) (R : Room) (s : State) (m : MethodId) (args : Array Value) (meth : Method) (c : Code) : Prop :=
  p.tables.exec = Jvm.exec ∧ c.code = Y.2.1 ∧ c.maxLocals = Y.2.2.1 ∧ meth.sig.returnType = Y.2.2.2.1 ∧ meth.locks = false ∧ meth.name = Y.1.name ∧ s.vm.findClass Y.1.cls = some m.cls ∧ (∀ w ∈ et_W, w.before args s = true) ∧
  c.exceptionTable.toList.map (fun h => (h.startPc, h.endPc, h.handlerPc, h.catchType)) = Y.2.2.2.2 ∧ R = et_rm d mc ms ∧ et_Wd sc B D dA s ∧ et_L l
section ETCx
variable {sc : et_X} {Y : et_Y} {d mc ms B : Nat} {D : va_G} {dA : Nat → ClassId} {p : Program} {l : Launch} {R : Room} {s : State} {m : MethodId} {args : Array Value} {meth : Method} {c : Code}
theorem et_C.ret (C : et_C sc Y d mc ms B D dA p l R s m args meth c) : meth.sig.returnType = Y.2.2.2.1 := C.2.2.2.1
theorem et_C.locks (C : et_C sc Y d mc ms B D dA p l R s m args meth c) : meth.locks = false := C.2.2.2.2.1
theorem et_C.name (C : et_C sc Y d mc ms B D dA p l R s m args meth c) : meth.name = Y.1.name := C.2.2.2.2.2.1
theorem et_C.own (C : et_C sc Y d mc ms B D dA p l R s m args meth c) : s.vm.findClass Y.1.cls = some m.cls := C.2.2.2.2.2.2.1
theorem et_C.hts (C : et_C sc Y d mc ms B D dA p l R s m args meth c) : ∀ w ∈ et_W, w.before args s = true := C.2.2.2.2.2.2.2.1
theorem et_C.tab (C : et_C sc Y d mc ms B D dA p l R s m args meth c) : c.exceptionTable.toList.map (fun h => (h.startPc, h.endPc, h.handlerPc, h.catchType)) = Y.2.2.2.2 := C.2.2.2.2.2.2.2.2.1
theorem et_C.rm (C : et_C sc Y d mc ms B D dA p l R s m args meth c) : R = et_rm d mc ms := C.2.2.2.2.2.2.2.2.2.1
theorem et_C.wd (C : et_C sc Y d mc ms B D dA p l R s m args meth c) : et_Wd sc B D dA s := C.2.2.2.2.2.2.2.2.2.2.1
theorem et_C.la (C : et_C sc Y d mc ms B D dA p l R s m args meth c) : et_L l := C.2.2.2.2.2.2.2.2.2.2.2
theorem et_C.kk (C : et_C sc Y d mc ms B D dA p l R s m args meth c) : va_K D et_cl (et_tys dA) s := C.wd.1
end ETCx
/-- the answer, or the kind of the exception -/
def et_O (B : Nat) (r : et_R) (o : Outcome) (t : State) : Prop := match r with
  | .inl v => o = .returned (v.map (et_em B))
  | .inr k => ∃ (a : Nat) (ce : Cell), o = .threw (B + a) ∧ t.heap[B + a]? = some ce ∧ t.vm.findClass (et_exn k) = some ce.cls ∧ ce.vm.isStatics = false
def et_Qc (B : Nat) (D : va_G) (dA : Nat → ClassId) (Post : et_R → (Nat → et_MC) → Nat → Prop) : Array Value → State → Outcome → State → Prop := fun _ st o t =>
  (∃ (r : et_R) (h : Nat → et_MC) (n : Nat), Post r h n ∧ et_HP D dA B h n t.heap ∧ et_O B r o t) ∧ ∀ q : Nat, q < B → t.heap[q]? = st.heap[q]?
/-- the locals -/
def et_ll (B : Nat) : Nat → List (Option Value) → List (Nat × Value)
  | _, [] => []
  | i, none :: r => et_ll B (i + 1) r
  | i, some v :: r => (i, et_em B v) :: et_ll B (i + 1) r
theorem et_ll_mem {B : Nat} : ∀ (lv : List (Option Value)) (i : Nat) (q : Nat × Value), q ∈ et_ll B i lv ↔ ∃ (j : Nat) (v : Value), lv[j]? = some (some v) ∧ q = (i + j, et_em B v)
  | [], i, q => by simp [et_ll]
  | none :: r, i, q => by
    rw [et_ll, et_ll_mem r (i + 1) q]
    constructor
    · rintro ⟨j, v, h1, h2⟩
      exact ⟨j + 1, v, by simpa using h1, by rw [h2]; congr 1; omega⟩
    · rintro ⟨j, v, h1, h2⟩
      cases j with
      | zero => simp at h1
      | succ j => exact ⟨j, v, by simpa using h1, by rw [h2]; congr 1; omega⟩
  | some w :: r, i, q => by
    rw [et_ll, List.mem_cons, et_ll_mem r (i + 1) q]
    constructor
    · rintro (h | ⟨j, v, h1, h2⟩)
      · exact ⟨0, w, by simp, by rw [h]; rfl⟩
      · exact ⟨j + 1, v, by simpa using h1, by rw [h2]; congr 1; omega⟩
    · rintro ⟨j, v, h1, h2⟩
      cases j with
      | zero =>
        simp at h1
        subst h1
        exact Or.inl h2
      | succ j => exact Or.inr ⟨j, v, by simpa using h1, by rw [h2]; congr 1; omega⟩
theorem et_ld {B nL j : Nat} {lv : List (Option Value)} {v : Value} {ls : Array Slot} (hl : lv_has ls nL (et_ll B 0 lv)) (hj : lv[j]? = some (some v)) : ls[j]? = some (.val (et_em B v)) := by
  have h := hl.2.2 (j, et_em B v) ((et_ll_mem lv 0 _).mpr ⟨j, v, hj, by simp⟩)
  exact h
theorem et_sub {ls : Array Slot} {nL : Nat} {l l' : List (Nat × Value)} (h : lv_has ls nL l) (hs : ∀ q ∈ l', q ∈ l) : lv_has ls nL l' := ⟨h.1, h.2.1, fun q hq => h.2.2 q (hs q hq)⟩
def et_pv (lv : List (Option Value)) (i : Nat) : Bool := match i with
  | 0 => true
  | k + 1 => match lv[k]? with
    | some (some w) => w.category != 2
    | _ => true
theorem et_pv_ok {lv : List (Option Value)} {i j : Nat} {w : Value} (h : et_pv lv i = true) (hj : lv[j]? = some (some w)) (hi : j + 1 = i) : ¬ w.category = 2 := by
  subst hi
  simp only [et_pv, hj] at h
  simpa using h
theorem et_st1 {B i : Nat} {lv : List (Option Value)} {v : Value} (h : et_pv lv i = true) : ∀ q ∈ et_ll B 0 (lv.set i (some v)), q ∈ ((i, et_em B v) :: (et_ll B 0 lv).filter (fun q => !(q.1 == i) && !(q.1 + 1 == i && q.2.category == 2))) := by
  intro q hq
  obtain ⟨j, w, h1, h2⟩ := (et_ll_mem _ _ _).mp hq
  rw [Nat.zero_add] at h2
  subst h2
  by_cases hj : j = i
  · subst hj
    have hlt : j < lv.length := by
      have := (List.getElem?_eq_some_iff.mp h1).1
      simpa using this
    rw [List.getElem?_set_self hlt] at h1
    cases h1
    exact List.mem_cons_self
  · rw [List.getElem?_set_ne (Ne.symm hj)] at h1
    refine List.mem_cons_of_mem _ (List.mem_filter.mpr ⟨(et_ll_mem _ _ _).mpr ⟨j, w, h1, by simp⟩, ?_⟩)
    by_cases h3 : j + 1 = i
    · have h4 := et_pv_ok h h1 h3
      simp [hj, et_em_cat, h4]
    · simp [hj, h3]
theorem et_st2 {B i : Nat} {lv : List (Option Value)} {v : Value} (h : et_pv lv i = true) : ∀ q ∈ et_ll B 0 ((lv.set i (some v)).set (i + 1) none), q ∈ ((i, et_em B v) :: (et_ll B 0 lv).filter (fun q => !(q.1 == i) && (!(q.1 == i + 1) && !(q.1 + 1 == i && q.2.category == 2)))) := by
  intro q hq
  obtain ⟨j, w, h1, h2⟩ := (et_ll_mem _ _ _).mp hq
  rw [Nat.zero_add] at h2
  subst h2
  by_cases hj1 : j = i + 1
  · subst hj1
    exfalso
    by_cases hlt : i + 1 < (lv.set i (some v)).length
    · rw [List.getElem?_set_self hlt] at h1
      cases h1
    · rw [List.getElem?_eq_none (by rw [List.length_set]; omega)] at h1
      cases h1
  · rw [List.getElem?_set_ne (Ne.symm hj1)] at h1
    by_cases hj : j = i
    · subst hj
      have hlt : j < lv.length := by
        have := (List.getElem?_eq_some_iff.mp h1).1
        simpa using this
      rw [List.getElem?_set_self hlt] at h1
      cases h1
      exact List.mem_cons_self
    · rw [List.getElem?_set_ne (Ne.symm hj)] at h1
      refine List.mem_cons_of_mem _ (List.mem_filter.mpr ⟨(et_ll_mem _ _ _).mpr ⟨j, w, h1, by simp⟩, ?_⟩)
      by_cases h3 : j + 1 = i
      · have h4 := et_pv_ok h h1 h3
        simp [hj, hj1, et_em_cat, h4]
      · simp [hj, hj1, h3]
/-- the judgement of the small machine -/
def et_M (sc : et_X) (Y : et_Y) (d mc ms : Nat) (Post : et_R → (Nat → et_MC) → Nat → Prop) (pc : Nat) (lv : List (Option Value)) (st : List Value) (h : Nat → et_MC) (n nc ns : Nat) : Prop :=
  ∀ (p : Program) (l : Launch) (e : Env) (R : Room) (s : State) (m : MethodId) (args : Array Value) (below : List Frame) (meth : Method) (c : Code) (B : Nat) (D : va_G) (dA : Nat → ClassId) (ls : Array Slot) (H : Heap) (locs : List Loc),
    et_C sc Y d mc ms B D dA p l R s m args meth c → et_HP D dA B h n H → (∀ q : Nat, q < B → H[q]? = s.heap[q]?) → (∀ q ∈ locs, B ≤ q.base) → lv_has ls Y.2.2.1 (et_ll B 0 lv) →
    W p l e R s m args below meth c H locs nc ns (et_Q below (et_Qc B D dA Post) args s mc ms (fun q => B ≤ q)) (F0 m pc ls (st.map (et_em B)))
/-- the contract of the small machine -/
def et_Cn (sc : et_X) (Y : et_Y) (d : Nat) (av : List Value) (h : Nat → et_MC) (n mc ms : Nat) (Post : et_R → (Nat → et_MC) → Nat → Prop) : Prop :=
  ∀ (l : Launch) (B : Nat) (D : va_G) (dA : Nat → ClassId), et_L l →
    et_Met l Y.1 et_W (et_rm d mc ms) (va_Pc (av.map (et_em B)) (fun U => et_HP D dA B h n U.heap ∧ et_Wd sc B D dA U)) (et_Qc B D dA Post) mc ms (fun q => B ≤ q)
/-- a method's locals at its start -/
def et_av : List Value → List (Option Value)
  | [] => []
  | v :: r => if v.category = 2 then some v :: none :: et_av r else some v :: et_av r
theorem et_av_args {B : Nat} : ∀ (av : List Value) (i k : Nat) (q : Nat × Value), q ∈ et_ll B i (et_av av ++ List.replicate k none) → q ∈ lv_args i (av.map (et_em B))
  | [], i, k, q, h => by
    exfalso
    obtain ⟨j, v, h1, -⟩ := (et_ll_mem _ _ _).mp h
    simp only [et_av, List.nil_append, List.getElem?_replicate] at h1
    split at h1 <;> simp at h1
  | v :: r, i, k, q, h => by
    by_cases hc : v.category = 2
    · simp only [et_av, hc, if_true, List.cons_append, et_ll, List.mem_cons] at h
      simp only [List.map_cons, lv_args, et_em_cat, hc, if_true, List.mem_cons]
      rcases h with h | h
      · exact Or.inl h
      · exact Or.inr (et_av_args r (i + 2) k q h)
    · simp only [et_av, hc, if_false, List.cons_append, et_ll, List.mem_cons] at h
      simp only [List.map_cons, lv_args, et_em_cat, hc, if_false, List.mem_cons]
      rcases h with h | h
      · exact Or.inl h
      · exact Or.inr (et_av_args r (i + 1) k q h)
theorem et_sl_len (B : Nat) (av : List Value) : (lg_sl (av.map (et_em B))).length = (et_av av).length := by
  induction av with
  | nil => rfl
  | cons v r ih =>
    by_cases hc : v.category = 2
    · simp only [lg_sl, List.map_cons, List.flatMap_cons, et_em_cat, hc, if_true, List.length_append, et_av] at ih ⊢
      rw [ih]
      simp
      omega
    · simp only [lg_sl, List.map_cons, List.flatMap_cons, et_em_cat, hc, if_false, List.length_append, et_av] at ih ⊢
      rw [ih]
      simp
      omega
/-- a contract out of the walk from the entry -/
theorem et_Cn.of {sc : et_X} {Y : et_Y} {d : Nat} {av : List Value} {h : Nat → et_MC} {n mc ms : Nat} {Post : et_R → (Nat → et_MC) → Nat → Prop} {lv : List (Option Value)} (k : Nat) (hlv : et_av av ++ List.replicate k none = lv) (hlen : lv.length = Y.2.2.1)
    (hy : plainName Y.1.cls = true) (hw : et_cw Y.1 Y.2.1 Y.2.2.1 Y.2.2.2.1 Y.2.2.2.2 ∈ et_W) (K : et_M sc Y d mc ms Post 0 lv [] h n 0 0) : et_Cn sc Y d av h n mc ms Post := by
  intro l B D dA hl
  refine et_MetW (cc := Y.2.1) (nL := Y.2.2.1) (ret := Y.2.2.2.1) (hh := Y.2.2.2.2) hy hw ?_
  intro p e s m args below meth c s₁ Bd hml htab hv
  obtain ⟨rfl, hP, hWd⟩ := hv
  have hl1 : (lg_sl (av.map (et_em B))).length ≤ Y.2.2.1 := by
    rw [et_sl_len, ← hlen, ← hlv, List.length_append]
    omega
  have he := lv_entry (av.map (et_em B)) hl1
  rw [lg_entry_eq]
  exact K p l e _ s m _ below meth c B D dA _ s.heap [] ⟨Bd.exec, Bd.bytes, hml, Bd.returns, Bd.notSynchronized, (name_of_methodNamed Bd.named Bd.method).1, findClass_of_methodNamed Bd.named, atoms_spec (ws := et_W) Bd.pre, htab, rfl, hWd, hl⟩ hP (fun _ _ => rfl) (fun _ h => by cases h) (et_sub he (fun q hq => et_av_args av 0 k q (by rw [hlv]; exact hq)))
end
section
theorem et_ne {q B k : Nat} (h : q < B) : q ≠ B + k := by omega
section ETR
variable {sc : et_X} {Y : et_Y} {d mc ms : Nat} {Post : et_R → (Nat → et_MC) → Nat → Prop} {pc : Nat} {lv : List (Option Value)} {st : List Value} {h : Nat → et_MC} {n nc ns : Nat}
theorem et_iconst {z : Int} {v : Int32} (hdg : decode Y.2.1 pc = .ok (.iconst z, 1)) (hv : Int32.ofInt z = v) (k : et_M sc Y d mc ms Post (pc + 1) lv (.int v :: st) h n nc ns) : et_M sc Y d mc ms Post (pc) lv (st) h n nc ns := by
  intro p l e R s m args below meth c B D dA ls H locs C hP hF hL hl
  exact lv_iconst (rest := st.map (et_em B)) C.1 C.2.1 hdg hv (k p l e R s m args below meth c B D dA ls H locs C hP hF hL hl)
theorem et_bipush {z : Int} {v : Int32} (hdg : decode Y.2.1 pc = .ok (.bipush z, 2)) (hv : (Int8.ofInt z).toInt32 = v) (k : et_M sc Y d mc ms Post (pc + 2) lv (.int v :: st) h n nc ns) : et_M sc Y d mc ms Post (pc) lv (st) h n nc ns := by
  intro p l e R s m args below meth c B D dA ls H locs C hP hF hL hl
  exact lv_bipush (rest := st.map (et_em B)) C.1 C.2.1 hdg hv (k p l e R s m args below meth c B D dA ls H locs C hP hF hL hl)
theorem et_sipush {z : Int} {v : Int32} (hdg : decode Y.2.1 pc = .ok (.sipush z, 3)) (hv : (Int16.ofInt z).toInt32 = v) (k : et_M sc Y d mc ms Post (pc + 3) lv (.int v :: st) h n nc ns) : et_M sc Y d mc ms Post (pc) lv (st) h n nc ns := by
  intro p l e R s m args below meth c B D dA ls H locs C hP hF hL hl
  exact lv_sipush (rest := st.map (et_em B)) C.1 C.2.1 hdg hv (k p l e R s m args below meth c B D dA ls H locs C hP hF hL hl)
theorem et_lconst {z : Fin 2} {v : Int64} (hdg : decode Y.2.1 pc = .ok (.lconst z, 1)) (hv : Int64.ofNat (z : Nat) = v) (k : et_M sc Y d mc ms Post (pc + 1) lv (.long v :: st) h n nc ns) : et_M sc Y d mc ms Post (pc) lv (st) h n nc ns := by
  intro p l e R s m args below meth c B D dA ls H locs C hP hF hL hl
  exact lv_lconst (rest := st.map (et_em B)) C.1 C.2.1 hdg hv (k p l e R s m args below meth c B D dA ls H locs C hP hF hL hl)
theorem et_iload_n {z : Fin 4} {i : Nat} {x : Int32} (hdg : decode Y.2.1 pc = .ok (.iload_n z, 1)) (hi : (z : Nat) = i) (hj : lv[i]? = some (some (.int x))) (k : et_M sc Y d mc ms Post (pc + 1) lv (.int x :: st) h n nc ns) : et_M sc Y d mc ms Post (pc) lv (st) h n nc ns := by
  intro p l e R s m args below meth c B D dA ls H locs C hP hF hL hl
  exact lv_iload_n (rest := st.map (et_em B)) C.1 C.2.1 hdg hi (et_ld hl hj) (k p l e R s m args below meth c B D dA ls H locs C hP hF hL hl)
theorem et_iload {i : Nat} {x : Int32} (hdg : decode Y.2.1 pc = .ok (.iload i, 2)) (hj : lv[i]? = some (some (.int x))) (k : et_M sc Y d mc ms Post (pc + 2) lv (.int x :: st) h n nc ns) : et_M sc Y d mc ms Post (pc) lv (st) h n nc ns := by
  intro p l e R s m args below meth c B D dA ls H locs C hP hF hL hl
  exact lv_iload (rest := st.map (et_em B)) C.1 C.2.1 hdg (et_ld hl hj) (k p l e R s m args below meth c B D dA ls H locs C hP hF hL hl)
theorem et_lload_n {z : Fin 4} {i : Nat} {x : Int64} (hdg : decode Y.2.1 pc = .ok (.lload_n z, 1)) (hi : (z : Nat) = i) (hj : lv[i]? = some (some (.long x))) (k : et_M sc Y d mc ms Post (pc + 1) lv (.long x :: st) h n nc ns) : et_M sc Y d mc ms Post (pc) lv (st) h n nc ns := by
  intro p l e R s m args below meth c B D dA ls H locs C hP hF hL hl
  exact lv_lload_n (rest := st.map (et_em B)) C.1 C.2.1 hdg hi (et_ld hl hj) (k p l e R s m args below meth c B D dA ls H locs C hP hF hL hl)
theorem et_lload {i : Nat} {x : Int64} (hdg : decode Y.2.1 pc = .ok (.lload i, 2)) (hj : lv[i]? = some (some (.long x))) (k : et_M sc Y d mc ms Post (pc + 2) lv (.long x :: st) h n nc ns) : et_M sc Y d mc ms Post (pc) lv (st) h n nc ns := by
  intro p l e R s m args below meth c B D dA ls H locs C hP hF hL hl
  exact lv_lload (rest := st.map (et_em B)) C.1 C.2.1 hdg (et_ld hl hj) (k p l e R s m args below meth c B D dA ls H locs C hP hF hL hl)
theorem et_aload_n {z : Fin 4} {i : Nat} {x : Nat} (hdg : decode Y.2.1 pc = .ok (.aload_n z, 1)) (hi : (z : Nat) = i) (hj : lv[i]? = some (some (.ref x))) (k : et_M sc Y d mc ms Post (pc + 1) lv (.ref x :: st) h n nc ns) : et_M sc Y d mc ms Post (pc) lv (st) h n nc ns := by
  intro p l e R s m args below meth c B D dA ls H locs C hP hF hL hl
  exact lv_aload_n (rest := st.map (et_em B)) C.1 C.2.1 hdg hi (et_ld hl hj) (k p l e R s m args below meth c B D dA ls H locs C hP hF hL hl)
theorem et_aload {i : Nat} {x : Nat} (hdg : decode Y.2.1 pc = .ok (.aload i, 2)) (hj : lv[i]? = some (some (.ref x))) (k : et_M sc Y d mc ms Post (pc + 2) lv (.ref x :: st) h n nc ns) : et_M sc Y d mc ms Post (pc) lv (st) h n nc ns := by
  intro p l e R s m args below meth c B D dA ls H locs C hP hF hL hl
  exact lv_aload (rest := st.map (et_em B)) C.1 C.2.1 hdg (et_ld hl hj) (k p l e R s m args below meth c B D dA ls H locs C hP hF hL hl)
theorem et_istore_n {z : Fin 4} {i : Nat} {x : Int32} {lv' : List (Option Value)} (hdg : decode Y.2.1 pc = .ok (.istore_n z, 1)) (hi : (z : Nat) = i) (hn : i < Y.2.2.1) (hv : et_pv lv i = true) (hs : lv.set i (some (.int x)) = lv') (k : et_M sc Y d mc ms Post (pc + 1) lv' (st) h n nc ns) : et_M sc Y d mc ms Post (pc) lv (.int x :: st) h n nc ns := by
  intro p l e R s m args below meth c B D dA ls H locs C hP hF hL hl
  refine lv_istore_n (rest := st.map (et_em B)) C.1 C.2.1 hdg hi hl hn rfl (fun ls' hl' => ?_)
  subst hs
  exact k p l e R s m args below meth c B D dA ls' H locs C hP hF hL (et_sub hl' (et_st1 (v := .int x) hv))
theorem et_istore {i : Nat} {x : Int32} {lv' : List (Option Value)} (hdg : decode Y.2.1 pc = .ok (.istore i, 2)) (hn : i < Y.2.2.1) (hv : et_pv lv i = true) (hs : lv.set i (some (.int x)) = lv') (k : et_M sc Y d mc ms Post (pc + 2) lv' (st) h n nc ns) : et_M sc Y d mc ms Post (pc) lv (.int x :: st) h n nc ns := by
  intro p l e R s m args below meth c B D dA ls H locs C hP hF hL hl
  refine lv_istore (rest := st.map (et_em B)) C.1 C.2.1 hdg hl hn rfl (fun ls' hl' => ?_)
  subst hs
  exact k p l e R s m args below meth c B D dA ls' H locs C hP hF hL (et_sub hl' (et_st1 (v := .int x) hv))
theorem et_astore_n {z : Fin 4} {i : Nat} {x : Nat} {lv' : List (Option Value)} (hdg : decode Y.2.1 pc = .ok (.astore_n z, 1)) (hi : (z : Nat) = i) (hn : i < Y.2.2.1) (hv : et_pv lv i = true) (hs : lv.set i (some (.ref x)) = lv') (k : et_M sc Y d mc ms Post (pc + 1) lv' (st) h n nc ns) : et_M sc Y d mc ms Post (pc) lv (.ref x :: st) h n nc ns := by
  intro p l e R s m args below meth c B D dA ls H locs C hP hF hL hl
  refine lv_astore_n (rest := st.map (et_em B)) C.1 C.2.1 hdg hi hl hn rfl (fun ls' hl' => ?_)
  subst hs
  exact k p l e R s m args below meth c B D dA ls' H locs C hP hF hL (et_sub hl' (et_st1 (v := .ref x) hv))
theorem et_astore {i : Nat} {x : Nat} {lv' : List (Option Value)} (hdg : decode Y.2.1 pc = .ok (.astore i, 2)) (hn : i < Y.2.2.1) (hv : et_pv lv i = true) (hs : lv.set i (some (.ref x)) = lv') (k : et_M sc Y d mc ms Post (pc + 2) lv' (st) h n nc ns) : et_M sc Y d mc ms Post (pc) lv (.ref x :: st) h n nc ns := by
  intro p l e R s m args below meth c B D dA ls H locs C hP hF hL hl
  refine lv_astore (rest := st.map (et_em B)) C.1 C.2.1 hdg hl hn rfl (fun ls' hl' => ?_)
  subst hs
  exact k p l e R s m args below meth c B D dA ls' H locs C hP hF hL (et_sub hl' (et_st1 (v := .ref x) hv))
theorem et_lstore_n {z : Fin 4} {i : Nat} {x : Int64} {lv' : List (Option Value)} (hdg : decode Y.2.1 pc = .ok (.lstore_n z, 1)) (hi : (z : Nat) = i) (hn : i + 1 < Y.2.2.1) (hv : et_pv lv i = true) (hs : (lv.set i (some (.long x))).set (i + 1) none = lv') (k : et_M sc Y d mc ms Post (pc + 1) lv' (st) h n nc ns) : et_M sc Y d mc ms Post (pc) lv (.long x :: st) h n nc ns := by
  intro p l e R s m args below meth c B D dA ls H locs C hP hF hL hl
  refine lv_lstore_n (rest := st.map (et_em B)) C.1 C.2.1 hdg hi hl hn rfl (fun ls' hl' => ?_)
  subst hs
  exact k p l e R s m args below meth c B D dA ls' H locs C hP hF hL (et_sub hl' (et_st2 (v := .long x) hv))
theorem et_lstore {i : Nat} {x : Int64} {lv' : List (Option Value)} (hdg : decode Y.2.1 pc = .ok (.lstore i, 2)) (hn : i + 1 < Y.2.2.1) (hv : et_pv lv i = true) (hs : (lv.set i (some (.long x))).set (i + 1) none = lv') (k : et_M sc Y d mc ms Post (pc + 2) lv' (st) h n nc ns) : et_M sc Y d mc ms Post (pc) lv (.long x :: st) h n nc ns := by
  intro p l e R s m args below meth c B D dA ls H locs C hP hF hL hl
  refine lv_lstore (rest := st.map (et_em B)) C.1 C.2.1 hdg hl hn rfl (fun ls' hl' => ?_)
  subst hs
  exact k p l e R s m args below meth c B D dA ls' H locs C hP hF hL (et_sub hl' (et_st2 (v := .long x) hv))
theorem et_iinc {i : Nat} {z : Int} {x v : Int32} {lv' : List (Option Value)} (hdg : decode Y.2.1 pc = .ok (.iinc i z, 3)) (hj : lv[i]? = some (some (.int x))) (hz : x + Int32.ofInt z = v) (hn : i < Y.2.2.1) (hv : et_pv lv i = true) (hs : lv.set i (some (.int v)) = lv') (k : et_M sc Y d mc ms Post (pc + 3) lv' (st) h n nc ns) : et_M sc Y d mc ms Post (pc) lv (st) h n nc ns := by
  intro p l e R s m args below meth c B D dA ls H locs C hP hF hL hl
  obtain ⟨kx, hkx⟩ := List.getElem?_of_mem ((et_ll_mem (B := B) lv 0 (i, .int x)).mpr ⟨i, .int x, hj, by simp [et_em]⟩)
  refine lv_iinc (rest := st.map (et_em B)) C.1 C.2.1 hdg hl hkx hz hn rfl (fun ls' hl' => ?_)
  subst hs
  exact k p l e R s m args below meth c B D dA ls' H locs C hP hF hL (et_sub hl' (et_st1 (v := .int v) hv))
theorem et_iadd {x y : Int32} (hdg : decode Y.2.1 pc = .ok (.iadd, 1))  (k : et_M sc Y d mc ms Post (pc + 1) lv (.int (x + y) :: st) h n nc ns) : et_M sc Y d mc ms Post (pc) lv (.int y :: .int x :: st) h n nc ns := by
  intro p l e R s m args below meth c B D dA ls H locs C hP hF hL hl
  exact lv_iadd (rest := st.map (et_em B)) C.1 C.2.1 hdg  (k p l e R s m args below meth c B D dA ls H locs C hP hF hL hl)
theorem et_isub {x y : Int32} (hdg : decode Y.2.1 pc = .ok (.isub, 1))  (k : et_M sc Y d mc ms Post (pc + 1) lv (.int (x - y) :: st) h n nc ns) : et_M sc Y d mc ms Post (pc) lv (.int y :: .int x :: st) h n nc ns := by
  intro p l e R s m args below meth c B D dA ls H locs C hP hF hL hl
  exact lv_isub (rest := st.map (et_em B)) C.1 C.2.1 hdg  (k p l e R s m args below meth c B D dA ls H locs C hP hF hL hl)
theorem et_imul {x y : Int32} (hdg : decode Y.2.1 pc = .ok (.imul, 1))  (k : et_M sc Y d mc ms Post (pc + 1) lv (.int (x * y) :: st) h n nc ns) : et_M sc Y d mc ms Post (pc) lv (.int y :: .int x :: st) h n nc ns := by
  intro p l e R s m args below meth c B D dA ls H locs C hP hF hL hl
  exact lv_imul (rest := st.map (et_em B)) C.1 C.2.1 hdg  (k p l e R s m args below meth c B D dA ls H locs C hP hF hL hl)
theorem et_iand {x y : Int32} (hdg : decode Y.2.1 pc = .ok (.iand, 1))  (k : et_M sc Y d mc ms Post (pc + 1) lv (.int (x &&& y) :: st) h n nc ns) : et_M sc Y d mc ms Post (pc) lv (.int y :: .int x :: st) h n nc ns := by
  intro p l e R s m args below meth c B D dA ls H locs C hP hF hL hl
  exact lv_iand (rest := st.map (et_em B)) C.1 C.2.1 hdg  (k p l e R s m args below meth c B D dA ls H locs C hP hF hL hl)
theorem et_ior {x y : Int32} (hdg : decode Y.2.1 pc = .ok (.ior, 1))  (k : et_M sc Y d mc ms Post (pc + 1) lv (.int (x ||| y) :: st) h n nc ns) : et_M sc Y d mc ms Post (pc) lv (.int y :: .int x :: st) h n nc ns := by
  intro p l e R s m args below meth c B D dA ls H locs C hP hF hL hl
  exact lv_ior (rest := st.map (et_em B)) C.1 C.2.1 hdg  (k p l e R s m args below meth c B D dA ls H locs C hP hF hL hl)
theorem et_ixor {x y : Int32} (hdg : decode Y.2.1 pc = .ok (.ixor, 1))  (k : et_M sc Y d mc ms Post (pc + 1) lv (.int (x ^^^ y) :: st) h n nc ns) : et_M sc Y d mc ms Post (pc) lv (.int y :: .int x :: st) h n nc ns := by
  intro p l e R s m args below meth c B D dA ls H locs C hP hF hL hl
  exact lv_ixor (rest := st.map (et_em B)) C.1 C.2.1 hdg  (k p l e R s m args below meth c B D dA ls H locs C hP hF hL hl)
theorem et_ineg {x : Int32} (hdg : decode Y.2.1 pc = .ok (.ineg, 1))  (k : et_M sc Y d mc ms Post (pc + 1) lv (.int (-x) :: st) h n nc ns) : et_M sc Y d mc ms Post (pc) lv (.int x :: st) h n nc ns := by
  intro p l e R s m args below meth c B D dA ls H locs C hP hF hL hl
  exact lv_ineg (rest := st.map (et_em B)) C.1 C.2.1 hdg  (k p l e R s m args below meth c B D dA ls H locs C hP hF hL hl)
theorem et_ladd {x y : Int64} (hdg : decode Y.2.1 pc = .ok (.ladd, 1))  (k : et_M sc Y d mc ms Post (pc + 1) lv (.long (x + y) :: st) h n nc ns) : et_M sc Y d mc ms Post (pc) lv (.long y :: .long x :: st) h n nc ns := by
  intro p l e R s m args below meth c B D dA ls H locs C hP hF hL hl
  exact lv_ladd (rest := st.map (et_em B)) C.1 C.2.1 hdg  (k p l e R s m args below meth c B D dA ls H locs C hP hF hL hl)
theorem et_lsub {x y : Int64} (hdg : decode Y.2.1 pc = .ok (.lsub, 1))  (k : et_M sc Y d mc ms Post (pc + 1) lv (.long (x - y) :: st) h n nc ns) : et_M sc Y d mc ms Post (pc) lv (.long y :: .long x :: st) h n nc ns := by
  intro p l e R s m args below meth c B D dA ls H locs C hP hF hL hl
  exact lv_lsub (rest := st.map (et_em B)) C.1 C.2.1 hdg  (k p l e R s m args below meth c B D dA ls H locs C hP hF hL hl)
theorem et_lmul {x y : Int64} (hdg : decode Y.2.1 pc = .ok (.lmul, 1))  (k : et_M sc Y d mc ms Post (pc + 1) lv (.long (x * y) :: st) h n nc ns) : et_M sc Y d mc ms Post (pc) lv (.long y :: .long x :: st) h n nc ns := by
  intro p l e R s m args below meth c B D dA ls H locs C hP hF hL hl
  exact lv_lmul (rest := st.map (et_em B)) C.1 C.2.1 hdg  (k p l e R s m args below meth c B D dA ls H locs C hP hF hL hl)
theorem et_land {x y : Int64} (hdg : decode Y.2.1 pc = .ok (.land, 1))  (k : et_M sc Y d mc ms Post (pc + 1) lv (.long (x &&& y) :: st) h n nc ns) : et_M sc Y d mc ms Post (pc) lv (.long y :: .long x :: st) h n nc ns := by
  intro p l e R s m args below meth c B D dA ls H locs C hP hF hL hl
  exact lv_land (rest := st.map (et_em B)) C.1 C.2.1 hdg  (k p l e R s m args below meth c B D dA ls H locs C hP hF hL hl)
theorem et_lor {x y : Int64} (hdg : decode Y.2.1 pc = .ok (.lor, 1))  (k : et_M sc Y d mc ms Post (pc + 1) lv (.long (x ||| y) :: st) h n nc ns) : et_M sc Y d mc ms Post (pc) lv (.long y :: .long x :: st) h n nc ns := by
  intro p l e R s m args below meth c B D dA ls H locs C hP hF hL hl
  exact lv_lor (rest := st.map (et_em B)) C.1 C.2.1 hdg  (k p l e R s m args below meth c B D dA ls H locs C hP hF hL hl)
theorem et_ishl {x y : Int32} (hdg : decode Y.2.1 pc = .ok (.ishl, 1))  (k : et_M sc Y d mc ms Post (pc + 1) lv (.int (x <<< (y &&& 31)) :: st) h n nc ns) : et_M sc Y d mc ms Post (pc) lv (.int y :: .int x :: st) h n nc ns := by
  intro p l e R s m args below meth c B D dA ls H locs C hP hF hL hl
  exact lv_ishl (rest := st.map (et_em B)) C.1 C.2.1 hdg  (k p l e R s m args below meth c B D dA ls H locs C hP hF hL hl)
theorem et_ishr {x y : Int32} (hdg : decode Y.2.1 pc = .ok (.ishr, 1))  (k : et_M sc Y d mc ms Post (pc + 1) lv (.int (x >>> (y &&& 31)) :: st) h n nc ns) : et_M sc Y d mc ms Post (pc) lv (.int y :: .int x :: st) h n nc ns := by
  intro p l e R s m args below meth c B D dA ls H locs C hP hF hL hl
  exact lv_ishr (rest := st.map (et_em B)) C.1 C.2.1 hdg  (k p l e R s m args below meth c B D dA ls H locs C hP hF hL hl)
theorem et_i2l {x : Int32} {v : Int64} (hdg : decode Y.2.1 pc = .ok (.i2l, 1)) (hv : x.toInt64 = v) (k : et_M sc Y d mc ms Post (pc + 1) lv (.long v :: st) h n nc ns) : et_M sc Y d mc ms Post (pc) lv (.int x :: st) h n nc ns := by
  intro p l e R s m args below meth c B D dA ls H locs C hP hF hL hl
  exact lv_i2l (rest := st.map (et_em B)) C.1 C.2.1 hdg hv (k p l e R s m args below meth c B D dA ls H locs C hP hF hL hl)
theorem et_l2i {x : Int64} {v : Int32} (hdg : decode Y.2.1 pc = .ok (.l2i, 1)) (hv : x.toInt32 = v) (k : et_M sc Y d mc ms Post (pc + 1) lv (.int v :: st) h n nc ns) : et_M sc Y d mc ms Post (pc) lv (.long x :: st) h n nc ns := by
  intro p l e R s m args below meth c B D dA ls H locs C hP hF hL hl
  exact lv_l2i (rest := st.map (et_em B)) C.1 C.2.1 hdg hv (k p l e R s m args below meth c B D dA ls H locs C hP hF hL hl)
theorem et_lushr {x v : Int64} {y : Int32} (hdg : decode Y.2.1 pc = .ok (.lushr, 1)) (hv : (x.toUInt64 >>> (y.toInt64.toUInt64 &&& Int64.toUInt64 63)).toInt64 = v) (k : et_M sc Y d mc ms Post (pc + 1) lv (.long v :: st) h n nc ns) : et_M sc Y d mc ms Post (pc) lv (.int y :: .long x :: st) h n nc ns := by
  intro p l e R s m args below meth c B D dA ls H locs C hP hF hL hl
  exact lv_lushr (rest := st.map (et_em B)) C.1 C.2.1 hdg hv (k p l e R s m args below meth c B D dA ls H locs C hP hF hL hl)
theorem et_lshl {x v : Int64} {y : Int32} (hdg : decode Y.2.1 pc = .ok (.lshl, 1)) (hv : x <<< (y.toInt64 &&& 63) = v) (k : et_M sc Y d mc ms Post (pc + 1) lv (.long v :: st) h n nc ns) : et_M sc Y d mc ms Post (pc) lv (.int y :: .long x :: st) h n nc ns := by
  intro p l e R s m args below meth c B D dA ls H locs C hP hF hL hl
  exact lv_lshl (rest := st.map (et_em B)) C.1 C.2.1 hdg hv (k p l e R s m args below meth c B D dA ls H locs C hP hF hL hl)
theorem et_lcmp {x y : Int64} (hdg : decode Y.2.1 pc = .ok (.lcmp, 1))  (k : et_M sc Y d mc ms Post (pc + 1) lv (.int (lg_cmp x y) :: st) h n nc ns) : et_M sc Y d mc ms Post (pc) lv (.long y :: .long x :: st) h n nc ns := by
  intro p l e R s m args below meth c B D dA ls H locs C hP hF hL hl
  exact W.lcmp (rest := st.map (et_em B)) C.1 C.2.1 hdg  (k p l e R s m args below meth c B D dA ls H locs C hP hF hL hl)
theorem et_dup {v : Value} (hdg : decode Y.2.1 pc = .ok (.dup, 1)) (hv : v.category = 1) (k : et_M sc Y d mc ms Post (pc + 1) lv (v :: v :: st) h n nc ns) : et_M sc Y d mc ms Post (pc) lv (v :: st) h n nc ns := by
  intro p l e R s m args below meth c B D dA ls H locs C hP hF hL hl
  exact lv_dup (rest := st.map (et_em B)) C.1 C.2.1 hdg ((et_em_cat B v).trans hv) (k p l e R s m args below meth c B D dA ls H locs C hP hF hL hl)
theorem et_pop {v : Value} (hdg : decode Y.2.1 pc = .ok (.pop, 1)) (hv : v.category = 1) (k : et_M sc Y d mc ms Post (pc + 1) lv (st) h n nc ns) : et_M sc Y d mc ms Post (pc) lv (v :: st) h n nc ns := by
  intro p l e R s m args below meth c B D dA ls H locs C hP hF hL hl
  exact lv_pop (rest := st.map (et_em B)) C.1 C.2.1 hdg ((et_em_cat B v).trans hv) (k p l e R s m args below meth c B D dA ls H locs C hP hF hL hl)
theorem et_dup_x1 {v w : Value} (hdg : decode Y.2.1 pc = .ok (.dup_x1, 1)) (hv : v.category = 1) (hw : w.category = 1) (k : et_M sc Y d mc ms Post (pc + 1) lv (v :: w :: v :: st) h n nc ns) : et_M sc Y d mc ms Post (pc) lv (v :: w :: st) h n nc ns := by
  intro p l e R s m args below meth c B D dA ls H locs C hP hF hL hl
  exact lv_dup_x1 (rest := st.map (et_em B)) C.1 C.2.1 hdg ((et_em_cat B v).trans hv) ((et_em_cat B w).trans hw) (k p l e R s m args below meth c B D dA ls H locs C hP hF hL hl)
theorem et_dup_x2 {v w u : Value} (hdg : decode Y.2.1 pc = .ok (.dup_x2, 1)) (hv : v.category = 1) (hw : w.category = 1) (hu : u.category = 1) (k : et_M sc Y d mc ms Post (pc + 1) lv (v :: w :: u :: v :: st) h n nc ns) : et_M sc Y d mc ms Post (pc) lv (v :: w :: u :: st) h n nc ns := by
  intro p l e R s m args below meth c B D dA ls H locs C hP hF hL hl
  exact lv_dup_x2 (rest := st.map (et_em B)) C.1 C.2.1 hdg ((et_em_cat B v).trans hv) ((et_em_cat B w).trans hw) ((et_em_cat B u).trans hu) (k p l e R s m args below meth c B D dA ls H locs C hP hF hL hl)
theorem et_dup2 {v w : Value} (hdg : decode Y.2.1 pc = .ok (.dup2, 1)) (hv : v.category = 1) (hw : w.category = 1) (k : et_M sc Y d mc ms Post (pc + 1) lv (v :: w :: v :: w :: st) h n nc ns) : et_M sc Y d mc ms Post (pc) lv (v :: w :: st) h n nc ns := by
  intro p l e R s m args below meth c B D dA ls H locs C hP hF hL hl
  exact lv_dup2_11 (rest := st.map (et_em B)) C.1 C.2.1 hdg ((et_em_cat B v).trans hv) ((et_em_cat B w).trans hw) (k p l e R s m args below meth c B D dA ls H locs C hP hF hL hl)
theorem et_if_eq {x : Int32} {off : Int} {tgt : Nat} (hdg : decode Y.2.1 pc = .ok (.ifCond .eq off, 3)) (ht : (pc : Int) + off = (tgt : Int)) (kt : (x = 0) → et_M sc Y d mc ms Post (tgt) lv (st) h n nc ns) (kf : ¬ (x = 0) → et_M sc Y d mc ms Post (pc + 3) lv (st) h n nc ns) : et_M sc Y d mc ms Post (pc) lv (.int x :: st) h n nc ns := by
  intro p l e R s m args below meth c B D dA ls H locs C hP hF hL hl
  exact lv_if_eq (rest := st.map (et_em B)) C.1 C.2.1 hdg ht (fun q => kt q p l e R s m args below meth c B D dA ls H locs C hP hF hL hl) (fun q => kf q p l e R s m args below meth c B D dA ls H locs C hP hF hL hl)
theorem et_icmp_eq {x y : Int32} {off : Int} {tgt : Nat} (hdg : decode Y.2.1 pc = .ok (.if_icmp .eq off, 3)) (ht : (pc : Int) + off = (tgt : Int)) (kt : (x = y) → et_M sc Y d mc ms Post (tgt) lv (st) h n nc ns) (kf : ¬ (x = y) → et_M sc Y d mc ms Post (pc + 3) lv (st) h n nc ns) : et_M sc Y d mc ms Post (pc) lv (.int y :: .int x :: st) h n nc ns := by
  intro p l e R s m args below meth c B D dA ls H locs C hP hF hL hl
  exact lv_icmp_eq (rest := st.map (et_em B)) C.1 C.2.1 hdg ht (fun q => kt q p l e R s m args below meth c B D dA ls H locs C hP hF hL hl) (fun q => kf q p l e R s m args below meth c B D dA ls H locs C hP hF hL hl)
theorem et_if_ne {x : Int32} {off : Int} {tgt : Nat} (hdg : decode Y.2.1 pc = .ok (.ifCond .ne off, 3)) (ht : (pc : Int) + off = (tgt : Int)) (kt : (¬ x = 0) → et_M sc Y d mc ms Post (tgt) lv (st) h n nc ns) (kf : (x = 0) → et_M sc Y d mc ms Post (pc + 3) lv (st) h n nc ns) : et_M sc Y d mc ms Post (pc) lv (.int x :: st) h n nc ns := by
  intro p l e R s m args below meth c B D dA ls H locs C hP hF hL hl
  exact lv_if_ne (rest := st.map (et_em B)) C.1 C.2.1 hdg ht (fun q => kt q p l e R s m args below meth c B D dA ls H locs C hP hF hL hl) (fun q => kf q p l e R s m args below meth c B D dA ls H locs C hP hF hL hl)
theorem et_icmp_ne {x y : Int32} {off : Int} {tgt : Nat} (hdg : decode Y.2.1 pc = .ok (.if_icmp .ne off, 3)) (ht : (pc : Int) + off = (tgt : Int)) (kt : (¬ x = y) → et_M sc Y d mc ms Post (tgt) lv (st) h n nc ns) (kf : (x = y) → et_M sc Y d mc ms Post (pc + 3) lv (st) h n nc ns) : et_M sc Y d mc ms Post (pc) lv (.int y :: .int x :: st) h n nc ns := by
  intro p l e R s m args below meth c B D dA ls H locs C hP hF hL hl
  exact lv_icmp_ne (rest := st.map (et_em B)) C.1 C.2.1 hdg ht (fun q => kt q p l e R s m args below meth c B D dA ls H locs C hP hF hL hl) (fun q => kf q p l e R s m args below meth c B D dA ls H locs C hP hF hL hl)
theorem et_if_lt {x : Int32} {off : Int} {tgt : Nat} (hdg : decode Y.2.1 pc = .ok (.ifCond .lt off, 3)) (ht : (pc : Int) + off = (tgt : Int)) (kt : (x < 0) → et_M sc Y d mc ms Post (tgt) lv (st) h n nc ns) (kf : ¬ (x < 0) → et_M sc Y d mc ms Post (pc + 3) lv (st) h n nc ns) : et_M sc Y d mc ms Post (pc) lv (.int x :: st) h n nc ns := by
  intro p l e R s m args below meth c B D dA ls H locs C hP hF hL hl
  exact lv_if_lt (rest := st.map (et_em B)) C.1 C.2.1 hdg ht (fun q => kt q p l e R s m args below meth c B D dA ls H locs C hP hF hL hl) (fun q => kf q p l e R s m args below meth c B D dA ls H locs C hP hF hL hl)
theorem et_icmp_lt {x y : Int32} {off : Int} {tgt : Nat} (hdg : decode Y.2.1 pc = .ok (.if_icmp .lt off, 3)) (ht : (pc : Int) + off = (tgt : Int)) (kt : (x < y) → et_M sc Y d mc ms Post (tgt) lv (st) h n nc ns) (kf : ¬ (x < y) → et_M sc Y d mc ms Post (pc + 3) lv (st) h n nc ns) : et_M sc Y d mc ms Post (pc) lv (.int y :: .int x :: st) h n nc ns := by
  intro p l e R s m args below meth c B D dA ls H locs C hP hF hL hl
  exact lv_icmp_lt (rest := st.map (et_em B)) C.1 C.2.1 hdg ht (fun q => kt q p l e R s m args below meth c B D dA ls H locs C hP hF hL hl) (fun q => kf q p l e R s m args below meth c B D dA ls H locs C hP hF hL hl)
theorem et_if_ge {x : Int32} {off : Int} {tgt : Nat} (hdg : decode Y.2.1 pc = .ok (.ifCond .ge off, 3)) (ht : (pc : Int) + off = (tgt : Int)) (kt : (0 ≤ x) → et_M sc Y d mc ms Post (tgt) lv (st) h n nc ns) (kf : ¬ (0 ≤ x) → et_M sc Y d mc ms Post (pc + 3) lv (st) h n nc ns) : et_M sc Y d mc ms Post (pc) lv (.int x :: st) h n nc ns := by
  intro p l e R s m args below meth c B D dA ls H locs C hP hF hL hl
  exact lv_if_ge (rest := st.map (et_em B)) C.1 C.2.1 hdg ht (fun q => kt q p l e R s m args below meth c B D dA ls H locs C hP hF hL hl) (fun q => kf q p l e R s m args below meth c B D dA ls H locs C hP hF hL hl)
theorem et_icmp_ge {x y : Int32} {off : Int} {tgt : Nat} (hdg : decode Y.2.1 pc = .ok (.if_icmp .ge off, 3)) (ht : (pc : Int) + off = (tgt : Int)) (kt : (y ≤ x) → et_M sc Y d mc ms Post (tgt) lv (st) h n nc ns) (kf : ¬ (y ≤ x) → et_M sc Y d mc ms Post (pc + 3) lv (st) h n nc ns) : et_M sc Y d mc ms Post (pc) lv (.int y :: .int x :: st) h n nc ns := by
  intro p l e R s m args below meth c B D dA ls H locs C hP hF hL hl
  exact lv_icmp_ge (rest := st.map (et_em B)) C.1 C.2.1 hdg ht (fun q => kt q p l e R s m args below meth c B D dA ls H locs C hP hF hL hl) (fun q => kf q p l e R s m args below meth c B D dA ls H locs C hP hF hL hl)
theorem et_if_gt {x : Int32} {off : Int} {tgt : Nat} (hdg : decode Y.2.1 pc = .ok (.ifCond .gt off, 3)) (ht : (pc : Int) + off = (tgt : Int)) (kt : (0 < x) → et_M sc Y d mc ms Post (tgt) lv (st) h n nc ns) (kf : ¬ (0 < x) → et_M sc Y d mc ms Post (pc + 3) lv (st) h n nc ns) : et_M sc Y d mc ms Post (pc) lv (.int x :: st) h n nc ns := by
  intro p l e R s m args below meth c B D dA ls H locs C hP hF hL hl
  exact lv_if_gt (rest := st.map (et_em B)) C.1 C.2.1 hdg ht (fun q => kt q p l e R s m args below meth c B D dA ls H locs C hP hF hL hl) (fun q => kf q p l e R s m args below meth c B D dA ls H locs C hP hF hL hl)
theorem et_icmp_gt {x y : Int32} {off : Int} {tgt : Nat} (hdg : decode Y.2.1 pc = .ok (.if_icmp .gt off, 3)) (ht : (pc : Int) + off = (tgt : Int)) (kt : (y < x) → et_M sc Y d mc ms Post (tgt) lv (st) h n nc ns) (kf : ¬ (y < x) → et_M sc Y d mc ms Post (pc + 3) lv (st) h n nc ns) : et_M sc Y d mc ms Post (pc) lv (.int y :: .int x :: st) h n nc ns := by
  intro p l e R s m args below meth c B D dA ls H locs C hP hF hL hl
  exact lv_icmp_gt (rest := st.map (et_em B)) C.1 C.2.1 hdg ht (fun q => kt q p l e R s m args below meth c B D dA ls H locs C hP hF hL hl) (fun q => kf q p l e R s m args below meth c B D dA ls H locs C hP hF hL hl)
theorem et_if_le {x : Int32} {off : Int} {tgt : Nat} (hdg : decode Y.2.1 pc = .ok (.ifCond .le off, 3)) (ht : (pc : Int) + off = (tgt : Int)) (kt : (x ≤ 0) → et_M sc Y d mc ms Post (tgt) lv (st) h n nc ns) (kf : ¬ (x ≤ 0) → et_M sc Y d mc ms Post (pc + 3) lv (st) h n nc ns) : et_M sc Y d mc ms Post (pc) lv (.int x :: st) h n nc ns := by
  intro p l e R s m args below meth c B D dA ls H locs C hP hF hL hl
  exact lv_if_le (rest := st.map (et_em B)) C.1 C.2.1 hdg ht (fun q => kt q p l e R s m args below meth c B D dA ls H locs C hP hF hL hl) (fun q => kf q p l e R s m args below meth c B D dA ls H locs C hP hF hL hl)
theorem et_icmp_le {x y : Int32} {off : Int} {tgt : Nat} (hdg : decode Y.2.1 pc = .ok (.if_icmp .le off, 3)) (ht : (pc : Int) + off = (tgt : Int)) (kt : (x ≤ y) → et_M sc Y d mc ms Post (tgt) lv (st) h n nc ns) (kf : ¬ (x ≤ y) → et_M sc Y d mc ms Post (pc + 3) lv (st) h n nc ns) : et_M sc Y d mc ms Post (pc) lv (.int y :: .int x :: st) h n nc ns := by
  intro p l e R s m args below meth c B D dA ls H locs C hP hF hL hl
  exact lv_icmp_le (rest := st.map (et_em B)) C.1 C.2.1 hdg ht (fun q => kt q p l e R s m args below meth c B D dA ls H locs C hP hF hL hl) (fun q => kf q p l e R s m args below meth c B D dA ls H locs C hP hF hL hl)
theorem et_goto {off : Int} {tgt : Nat} (hdg : decode Y.2.1 pc = .ok (.goto off, 3)) (ht : (pc : Int) + off = (tgt : Int)) (k : et_M sc Y d mc ms Post (tgt) lv (st) h n nc ns) : et_M sc Y d mc ms Post (pc) lv (st) h n nc ns := by
  intro p l e R s m args below meth c B D dA ls H locs C hP hF hL hl
  exact lv_goto C.1 C.2.1 hdg ht (k p l e R s m args below meth c B D dA ls H locs C hP hF hL hl)
theorem et_ldc {index : Nat} {v : Int32} (hdg : decode Y.2.1 pc = .ok (.ldc index, 2)) (hw : Cond.constant Y.1.cls index v ∈ et_W) (k : et_M sc Y d mc ms Post (pc + 2) lv (.int v :: st) h n nc ns) : et_M sc Y d mc ms Post (pc) lv (st) h n nc ns := by
  intro p l e R s m args below meth c B D dA ls H locs C hP hF hL hl
  exact lv_ldc C.1 C.2.1 C.own (C.hts _ hw) hdg (k p l e R s m args below meth c B D dA ls H locs C hP hF hL hl)
theorem et_ldc2 {index : Nat} {v : Int64} (hdg : decode Y.2.1 pc = .ok (.ldc2_w index, 3)) (hw : Cond.constantLong Y.1.cls index v ∈ et_W) (k : et_M sc Y d mc ms Post (pc + 3) lv (.long v :: st) h n nc ns) : et_M sc Y d mc ms Post (pc) lv (st) h n nc ns := by
  intro p l e R s m args below meth c B D dA ls H locs C hP hF hL hl
  exact lv_ldc2 C.1 C.2.1 C.own (C.hts _ hw) hdg (k p l e R s m args below meth c B D dA ls H locs C hP hF hL hl)
theorem et_lookup {dflt : Int} {ps : Array (Int × Int)} {len : Nat} {x : Int32} {off : Int} {tgt : Nat} (hdg : decode Y.2.1 pc = .ok (.lookupswitch dflt ps, len)) (hp : (ps.toList.zip (ps.toList.drop 1)).all (fun (a, next) => a.1 < next.1) = true) (ho : Op.lookupswitch.offset ps.toList dflt x.toInt = off) (ht : (pc : Int) + off = (tgt : Int)) (k : et_M sc Y d mc ms Post (tgt) lv (st) h n nc ns) : et_M sc Y d mc ms Post (pc) lv (.int x :: st) h n nc ns := by
  intro p l e R s m args below meth c B D dA ls H locs C hP hF hL hl
  exact lv_lookup (rest := st.map (et_em B)) C.1 C.2.1 hdg hp ho ht (k p l e R s m args below meth c B D dA ls H locs C hP hF hL hl)
theorem et_tableOut {dflt lo hi : Int} {offs : Array Int} {len : Nat} {x : Int32} {tgt : Nat} (hdg : decode Y.2.1 pc = .ok (.tableswitch dflt lo hi offs, len)) (hx : x.toInt < lo ∨ hi < x.toInt) (ht : (pc : Int) + dflt = (tgt : Int)) (k : et_M sc Y d mc ms Post (tgt) lv (st) h n nc ns) : et_M sc Y d mc ms Post (pc) lv (.int x :: st) h n nc ns := by
  intro p l e R s m args below meth c B D dA ls H locs C hP hF hL hl
  exact lv_tableOut (rest := st.map (et_em B)) C.1 C.2.1 hdg hx ht (k p l e R s m args below meth c B D dA ls H locs C hP hF hL hl)
theorem et_tableIn {dflt lo hi : Int} {offs : Array Int} {len : Nat} {x : Int32} {off : Int} {tgt : Nat} (hdg : decode Y.2.1 pc = .ok (.tableswitch dflt lo hi offs, len)) (h1 : ¬ x.toInt < lo) (h2 : ¬ hi < x.toInt) (ho : offs[(x.toInt - lo).toNat]? = some off) (ht : (pc : Int) + off = (tgt : Int)) (k : et_M sc Y d mc ms Post (tgt) lv (st) h n nc ns) : et_M sc Y d mc ms Post (pc) lv (.int x :: st) h n nc ns := by
  intro p l e R s m args below meth c B D dA ls H locs C hP hF hL hl
  exact lv_tableIn (rest := st.map (et_em B)) C.1 C.2.1 hdg h1 h2 ho ht (k p l e R s m args below meth c B D dA ls H locs C hP hF hL hl)
theorem et_iret {v : Int32} (hdg : decode Y.2.1 pc = .ok (.ireturn, 1)) (hr : Y.2.2.2.1 = some .int) (h1 : nc ≤ mc) (h2 : ns ≤ ms) (hp : Post (.inl (some (.int v))) h n) : et_M sc Y d mc ms Post (pc) lv ([.int v]) h n nc ns := by
  intro p l e R s m args below meth c B D dA ls H locs C hP hF hL hl
  refine W.widen h1 h2 (et_mono (fun t ht => et_Q_of ht) (W.iret (v := v) (free := fun q => B ≤ q) C.1 C.2.1 (C.ret.trans hr) (fun t ht hW => ⟨⟨_, h, n, hp, by rw [ht]; exact hP, rfl⟩, fun q hq => by rw [ht]; exact hF q hq⟩) hL hdg (hlocks := C.locks)))
theorem et_zret {v : Int32} (hdg : decode Y.2.1 pc = .ok (.ireturn, 1)) (hr : Y.2.2.2.1 = some .boolean) (hb : narrow .boolean (.int v) = .int v) (h1 : nc ≤ mc) (h2 : ns ≤ ms) (hp : Post (.inl (some (.int v))) h n) : et_M sc Y d mc ms Post (pc) lv ([.int v]) h n nc ns := by
  intro p l e R s m args below meth c B D dA ls H locs C hP hF hL hl
  refine W.widen h1 h2 (et_mono (fun t ht => et_Q_of ht) (W.zret (v := v) (ty := .boolean) (free := fun q => B ≤ q) C.1 C.2.1 (C.ret.trans hr) hb (fun t ht hW => ⟨⟨_, h, n, hp, by rw [ht]; exact hP, rfl⟩, fun q hq => by rw [ht]; exact hF q hq⟩) hL hdg (hlocks := C.locks)))
theorem et_lret {v : Int64} (hdg : decode Y.2.1 pc = .ok (.lreturn, 1)) (hr : Y.2.2.2.1 = some .long) (h1 : nc ≤ mc) (h2 : ns ≤ ms) (hp : Post (.inl (some (.long v))) h n) : et_M sc Y d mc ms Post (pc) lv ([.long v]) h n nc ns := by
  intro p l e R s m args below meth c B D dA ls H locs C hP hF hL hl
  refine W.widen h1 h2 (et_mono (fun t ht => et_Q_of ht) (W.lret (v := v) (free := fun q => B ≤ q) C.1 C.2.1 (C.ret.trans hr) (fun t ht hW => ⟨⟨_, h, n, hp, by rw [ht]; exact hP, rfl⟩, fun q hq => by rw [ht]; exact hF q hq⟩) hL hdg (hlocks := C.locks)))
theorem et_vret  (hdg : decode Y.2.1 pc = .ok (.return_, 1)) (hr : Y.2.2.2.1 = none) (h1 : nc ≤ mc) (h2 : ns ≤ ms) (hp : Post (.inl none) h n) : et_M sc Y d mc ms Post (pc) lv ([]) h n nc ns := by
  intro p l e R s m args below meth c B D dA ls H locs C hP hF hL hl
  refine W.widen h1 h2 (et_mono (fun t ht => et_Q_of ht) (W.vret (free := fun q => B ≤ q) C.1 C.2.1 (C.ret.trans hr) (fun t ht hW => ⟨⟨_, h, n, hp, by rw [ht]; exact hP, rfl⟩, fun q hq => by rw [ht]; exact hF q hq⟩) hL hdg (hlocks := C.locks)))
theorem et_aret {v : Nat} {rt : FieldType} (hdg : decode Y.2.1 pc = .ok (.areturn, 1)) (hr : Y.2.2.2.1 = some rt) (hrt : (∃ n, rt = .object n) ∨ ∃ t, rt = .array t) (h1 : nc ≤ mc) (h2 : ns ≤ ms) (hp : Post (.inl (some (.ref v))) h n) : et_M sc Y d mc ms Post (pc) lv ([.ref v]) h n nc ns := by
  intro p l e R s m args below meth c B D dA ls H locs C hP hF hL hl
  refine W.widen h1 h2 (et_mono (fun t ht => et_Q_of ht) (W.aret (v := .ref (B + v)) (free := fun q => B ≤ q) C.1 C.2.1 (C.ret.trans hr) hrt (Or.inr ⟨_, rfl⟩) (fun t ht hW => ⟨⟨_, h, n, hp, by rw [ht]; exact hP, rfl⟩, fun q hq => by rw [ht]; exact hF q hq⟩) hL hdg (hlocks := C.locks)))
theorem et_getf {k ci index : Nat} (j : Nat) {fs : List Value} {Cn : String} {T : u_T} {N : Nat} {v : Value} (hdg : decode Y.2.1 pc = .ok (.getfield index, 3)) (hh : h k = .inr (ci, fs)) (hc : et_cl[ci]? = some (Cn, T, N)) (hin : ∀ w ∈ u_ws Cn T N, w ∈ et_W) (hj : j < N) (hlk : Cond.fieldLink Y.1.cls index (T j).1 (T j).2.1 (T j).2.2.1 ∈ et_W) (hv : fs[j]? = some v) (kk : et_M sc Y d mc ms Post (pc + 3) lv (v :: st) h n nc ns) : et_M sc Y d mc ms Post (pc) lv (.ref k :: st) h n nc ns := by
  intro p l e R s m args below meth c B D dA ls H locs C hP hF hL hl
  obtain ⟨-, cell, q1, q2, q3, q4⟩ := hP.obj hh hc
  obtain ⟨hS, hfc, kC, hkC, hkind⟩ := C.kk.1 ci _ hc
  obtain ⟨cf, kf, fi, f, hi, hsl⟩ := hS j hj
  refine W.getf (v := et_em B v) (a := B + k) (rest := st.map (et_em B)) C.1 C.2.1 C.own (C.hts _ hlk) hi (u_facts hfc hkC (u_lays C.hts hin hj) hi).1 q1 (by rw [q3]; exact fun h => by cases h) ?_ rfl rfl hdg (kk p l e R s m args below meth c B D dA ls H locs C hP hF hL hl)
  rw [hsl, q4 j hj]
  simp [vp_V, hv]
theorem et_getN {k ci index : Nat} (j : Nat) {fs : List Value} {Cn : String} {T : u_T} {N : Nat} {v : Value} (hdg : decode Y.2.1 pc = .ok (.getfield index, 3)) (hh : h k = .inr (ci, fs)) (hc : et_cl[ci]? = some (Cn, T, N)) (hin : ∀ w ∈ u_ws Cn T N, w ∈ et_W) (hj : j < N) (host : String) (hlk : Cond.fieldLinkNest Y.1.cls index (T j).1 (T j).2.1 (T j).2.2.1 host ∈ et_NST) (hv : fs[j]? = some v) (kk : et_M sc Y d mc ms Post (pc + 3) lv (v :: st) h n nc ns) : et_M sc Y d mc ms Post (pc) lv (.ref k :: st) h n nc ns := by
  intro p l e R s m args below meth c B D dA ls H locs C hP hF hL hl
  obtain ⟨-, cell, q1, q2, q3, q4⟩ := hP.obj hh hc
  obtain ⟨hS, hfc, kC, hkC, hkind⟩ := C.kk.1 ci _ hc
  obtain ⟨cf, kf, fi, f, hi, hsl⟩ := hS j hj
  refine va_Wgetf (v := et_em B v) (a := B + k) (rest := st.map (et_em B)) C.1 C.2.1 C.own (va_Nw.use rfl (C.wd.2.1 _ hlk)) hi (u_facts hfc hkC (u_lays C.hts hin hj) hi).1 q1 (by rw [q3]; exact fun h => by cases h) ?_ rfl rfl hdg (kk p l e R s m args below meth c B D dA ls H locs C hP hF hL hl)
  rw [hsl, q4 j hj]
  simp [vp_V, hv]
theorem et_putf {k ci index : Nat} (j : Nat) {fs : List Value} {Cn : String} {T : u_T} {N : Nat} {v : Value} {ty0 : Nat → FieldType} {ty : FieldType} (hdg : decode Y.2.1 pc = .ok (.putfield index, 3)) (hh : h k = .inr (ci, fs)) (hc : et_cl[ci]? = some (Cn, T, N)) (hin : ∀ w ∈ u_ws Cn T N, w ∈ et_W) (hty : ∀ k, k < N → parseFieldDescriptor (T k).2.2.1 = some (ty0 k)) (hnm : ∀ a, a < N → ∀ b, b < N → a ≠ b → (T a).2.1 ≠ (T b).2.1) (hj : j < N) (hlk : Cond.fieldLink Y.1.cls index (T j).1 (T j).2.1 (T j).2.2.1 ∈ et_W) (hfin : (T j).2.2.2 = false) (hd : ty0 j = ty) (hn : ∀ B, narrow ty (et_em B v) = et_em B v) (hfit : ∀ B, fits ty (et_em B v) = true) (hfl : j < fs.length) {fs' : List Value} (hfs : fs.set j v = fs') (kk : et_M sc Y d mc ms Post (pc + 3) lv (st) (va_up h k (.inr (ci, fs'))) n nc ns) : et_M sc Y d mc ms Post (pc) lv (v :: .ref k :: st) h n nc ns := by
  intro p l e R s m args below meth c B D dA ls H locs C hP hF hL hl
  subst hfs; subst hd
  have hd := hty j hj
  have hap := va_apart (own := Y.1.cls) C.hts hin ty0 hty hnm C.kk hc
  obtain ⟨hk, cell, q1, q2, q3, q4⟩ := hP.obj hh hc
  obtain ⟨hS, hfc, kC, hkC, hkind⟩ := C.kk.1 ci _ hc
  obtain ⟨cf, kf, fi, f, hi, hsl⟩ := hS j hj
  have hlay := C.hts _ (hin _ (u_in_lay hj))
  unfold u_lay at hlay
  rw [if_neg (by rw [hfin]; decide)] at hlay
  have hst := (u_facts hfc hkC (u_lays C.hts hin hj) hi).1
  have h6 := u_store hfc hkC hkind hlay hi hd (hn B) (hfit B)
  refine W.putK (v := et_em B v) (a := B + k) (rest := st.map (et_em B)) C.1 C.2.1 (f := f) ⟨C.own, C.hts _ hlk, ⟨_, _, _, hi⟩, hst⟩ (by rw [q2]; exact h6) q1 q3 (by rw [hsl]; exact k2_hasslot (q4 j hj)) rfl rfl hdg fun H' e1 e2 e3 => ?_
  rw [hsl] at e1
  refine kk p l e R s m args below meth c B D dA ls H' _ C (hP.put hk ⟨_, hc, t_OB.to (V := updV (vp_V (fs.map (et_em B))) j (et_em B v)) ⟨_, e1, q2, q3, t_set q4 hap hj (et_em B v)⟩ (fun i _ => ?_)⟩ e2 e3) (fun q hq => (e3 q (et_ne hq)).trans (hF q hq)) (fun q hq => ?_) hl
  · rw [vp_updV_set (by simpa using hfl) (et_em B v) i, List.map_set]
  · rcases List.mem_append.mp hq with h1 | h1
    · exact hL q h1
    · rw [List.mem_singleton.mp h1]; exact Nat.le_add_right B k
theorem et_putN {k ci index : Nat} (j : Nat) {fs : List Value} {Cn : String} {T : u_T} {N : Nat} {v : Value} {ty0 : Nat → FieldType} {ty : FieldType} (hdg : decode Y.2.1 pc = .ok (.putfield index, 3)) (hh : h k = .inr (ci, fs)) (hc : et_cl[ci]? = some (Cn, T, N)) (hin : ∀ w ∈ u_ws Cn T N, w ∈ et_W) (hty : ∀ k, k < N → parseFieldDescriptor (T k).2.2.1 = some (ty0 k)) (hnm : ∀ a, a < N → ∀ b, b < N → a ≠ b → (T a).2.1 ≠ (T b).2.1) (hj : j < N) (host : String) (hlk : Cond.fieldLinkNest Y.1.cls index (T j).1 (T j).2.1 (T j).2.2.1 host ∈ et_NST) (hfin : (T j).2.2.2 = false) (hd : ty0 j = ty) (hn : ∀ B, narrow ty (et_em B v) = et_em B v) (hfit : ∀ B, fits ty (et_em B v) = true) (hfl : j < fs.length) {fs' : List Value} (hfs : fs.set j v = fs') (kk : et_M sc Y d mc ms Post (pc + 3) lv (st) (va_up h k (.inr (ci, fs'))) n nc ns) : et_M sc Y d mc ms Post (pc) lv (v :: .ref k :: st) h n nc ns := by
  intro p l e R s m args below meth c B D dA ls H locs C hP hF hL hl
  subst hfs; subst hd
  have hd := hty j hj
  have hap := va_apart (own := Y.1.cls) C.hts hin ty0 hty hnm C.kk hc
  obtain ⟨hk, cell, q1, q2, q3, q4⟩ := hP.obj hh hc
  obtain ⟨hS, hfc, kC, hkC, hkind⟩ := C.kk.1 ci _ hc
  obtain ⟨cf, kf, fi, f, hi, hsl⟩ := hS j hj
  have hlay := C.hts _ (hin _ (u_in_lay hj))
  unfold u_lay at hlay
  rw [if_neg (by rw [hfin]; decide)] at hlay
  have hst := (u_facts hfc hkC (u_lays C.hts hin hj) hi).1
  have h6 := u_store hfc hkC hkind hlay hi hd (hn B) (hfit B)
  refine va_WputK (v := et_em B v) (a := B + k) (rest := st.map (et_em B)) C.1 C.2.1 (f := f) C.own (va_Nw.use rfl (C.wd.2.1 _ hlk)) hi hst (by rw [q2]; exact h6) q1 q3 (by rw [hsl]; exact k2_hasslot (q4 j hj)) rfl rfl hdg fun H' e1 e2 e3 => ?_
  rw [hsl] at e1
  refine kk p l e R s m args below meth c B D dA ls H' _ C (hP.put hk ⟨_, hc, t_OB.to (V := updV (vp_V (fs.map (et_em B))) j (et_em B v)) ⟨_, e1, q2, q3, t_set q4 hap hj (et_em B v)⟩ (fun i _ => ?_)⟩ e2 e3) (fun q hq => (e3 q (et_ne hq)).trans (hF q hq)) (fun q hq => ?_) hl
  · rw [vp_updV_set (by simpa using hfl) (et_em B v) i, List.map_set]
  · rcases List.mem_append.mp hq with h1 | h1
    · exact hL q h1
    · rw [List.mem_singleton.mp h1]; exact Nat.le_add_right B k
theorem et_putF {k ci index : Nat} (j : Nat) {fs : List Value} {Cn : String} {T : u_T} {N : Nat} {v : Value} {ty0 : Nat → FieldType} {ty : FieldType} (hdg : decode Y.2.1 pc = .ok (.putfield index, 3)) (hh : h k = .inr (ci, fs)) (hc : et_cl[ci]? = some (Cn, T, N)) (hin : ∀ w ∈ u_ws Cn T N, w ∈ et_W) (hty : ∀ k, k < N → parseFieldDescriptor (T k).2.2.1 = some (ty0 k)) (hnm : ∀ a, a < N → ∀ b, b < N → a ≠ b → (T a).2.1 ≠ (T b).2.1) (hj : j < N) (hlk : Cond.fieldLink Y.1.cls index (T j).1 (T j).2.1 (T j).2.2.1 ∈ et_W) (hfin : (T j).2.2.2 = true) (hini : Y.1.name = "<init>") (hdecl : (T j).1 = Y.1.cls) (hd : ty0 j = ty) (hn : ∀ B, narrow ty (et_em B v) = et_em B v) (hfit : ∀ B, fits ty (et_em B v) = true) (hfl : j < fs.length) {fs' : List Value} (hfs : fs.set j v = fs') (kk : et_M sc Y d mc ms Post (pc + 3) lv (st) (va_up h k (.inr (ci, fs'))) n nc ns) : et_M sc Y d mc ms Post (pc) lv (v :: .ref k :: st) h n nc ns := by
  intro p l e R s m args below meth c B D dA ls H locs C hP hF hL hl
  subst hfs; subst hd
  have hd := hty j hj
  have hap := va_apart (own := Y.1.cls) C.hts hin ty0 hty hnm C.kk hc
  obtain ⟨hk, cell, q1, q2, q3, q4⟩ := hP.obj hh hc
  obtain ⟨hS, hfc, kC, hkC, hkind⟩ := C.kk.1 ci _ hc
  obtain ⟨cf, kf, fi, f, hi, hsl⟩ := hS j hj
  have hlay := C.hts _ (hin _ (u_in_lay hj))
  unfold u_lay at hlay
  rw [if_pos hfin] at hlay
  have hst := (u_facts hfc hkC (u_lays C.hts hin hj) hi).1
  have hcf : m.cls = cf := by
    obtain ⟨_, _, c', _, _, _, -, -, hf', -, -, -, hown2, -⟩ := Cond.laysFinal_spec hlay
    have e1 : c' = cf := by have := hi.symm.trans hf'; simp at this; exact this.1.symm
    rw [hdecl] at hown2
    rw [← e1]; exact Option.some.inj (C.own.symm.trans hown2)
  have h6 := u_fits hfc hkC hkind (Or.inr hlay) hi hd (hn B) (hfit B)
  refine W.putFinK (v := et_em B v) (a := B + k) (rest := st.map (et_em B)) C.1 C.2.1 C.own (C.hts _ hlk) hi hst hcf (C.name.trans hini) (by rw [q2]; exact h6) q1 q3 (by rw [hsl]; exact k2_hasslot (q4 j hj)) rfl rfl hdg fun H' e1 e2 e3 => ?_
  rw [hsl] at e1
  refine kk p l e R s m args below meth c B D dA ls H' _ C (hP.put hk ⟨_, hc, t_OB.to (V := updV (vp_V (fs.map (et_em B))) j (et_em B v)) ⟨_, e1, q2, q3, t_set q4 hap hj (et_em B v)⟩ (fun i _ => ?_)⟩ e2 e3) (fun q hq => (e3 q (et_ne hq)).trans (hF q hq)) (fun q hq => ?_) hl
  · rw [vp_updV_set (by simpa using hfl) (et_em B v) i, List.map_set]
  · rcases List.mem_append.mp hq with h1 | h1
    · exact hL q h1
    · rw [List.mem_singleton.mp h1]; exact Nat.le_add_right B k
theorem et_iald {k N : Nat} {f : Nat → Int32} {i : Int32} (hdg : decode Y.2.1 pc = .ok (.iaload, 1)) (hh : h k = .inl (0, N, .inl f)) (hin : vp_in i N) (kk : et_M sc Y d mc ms Post (pc + 1) lv (.int (f i.toNatClampNeg) :: st) h n nc ns) : et_M sc Y d mc ms Post (pc) lv (.int i :: .ref k :: st) h n nc ns := by
  intro p l e R s m args below meth c B D dA ls H locs C hP hF hL hl
  have q1 : H[B + k]? = some (arrV (dA 0) N (fun j => .int (f j))) := (hP.arr hh).2
  have hlt : i.toNatClampNeg < N := Nat.not_le.mp fun q => hin (Or.inr q)
  exact W.iald (v := .int (f i.toNatClampNeg)) (a := B + k) (rest := st.map (et_em B)) C.1 C.2.1 q1 ((C.kk.2 0 _ rfl).1 N (fun j => .int (f j))) (fun q => by cases q) (by show ¬ (i < 0 ∨ (arrV _ _ _).slots.size ≤ _); rw [arrV_size]; exact hin) (by show (arrV _ _ _).slots[_]? = _; rw [arrV_read _ _ hlt]) rfl rfl hdg (kk p l e R s m args below meth c B D dA ls H locs C hP hF hL hl)
theorem et_lald {k N : Nat} {f : Nat → Int64} {i : Int32} (hdg : decode Y.2.1 pc = .ok (.laload, 1)) (hh : h k = .inl (1, N, .inr (.inl f))) (hin : vp_in i N) (kk : et_M sc Y d mc ms Post (pc + 1) lv (.long (f i.toNatClampNeg) :: st) h n nc ns) : et_M sc Y d mc ms Post (pc) lv (.int i :: .ref k :: st) h n nc ns := by
  intro p l e R s m args below meth c B D dA ls H locs C hP hF hL hl
  have q1 : H[B + k]? = some (arrV (dA 1) N (fun j => .long (f j))) := (hP.arr hh).2
  have hlt : i.toNatClampNeg < N := Nat.not_le.mp fun q => hin (Or.inr q)
  exact W.lald (v := .long (f i.toNatClampNeg)) (a := B + k) (rest := st.map (et_em B)) C.1 C.2.1 q1 ((C.kk.2 1 _ rfl).1 N (fun j => .long (f j))) (fun q => by cases q) (by show ¬ (i < 0 ∨ (arrV _ _ _).slots.size ≤ _); rw [arrV_size]; exact hin) (by show (arrV _ _ _).slots[_]? = _; rw [arrV_read _ _ hlt]) rfl rfl hdg (kk p l e R s m args below meth c B D dA ls H locs C hP hF hL hl)
theorem et_zald {k N : Nat} {f : Nat → Int32} {i : Int32} (hdg : decode Y.2.1 pc = .ok (.baload, 1)) (hh : h k = .inl (2, N, .inl f)) (hin : vp_in i N) (kk : et_M sc Y d mc ms Post (pc + 1) lv (.int (f i.toNatClampNeg) :: st) h n nc ns) : et_M sc Y d mc ms Post (pc) lv (.int i :: .ref k :: st) h n nc ns := by
  intro p l e R s m args below meth c B D dA ls H locs C hP hF hL hl
  have q1 : H[B + k]? = some (arrV (dA 2) N (fun j => .int (f j))) := (hP.arr hh).2
  have hlt : i.toNatClampNeg < N := Nat.not_le.mp fun q => hin (Or.inr q)
  exact W.zald (v := .int (f i.toNatClampNeg)) (a := B + k) (rest := st.map (et_em B)) C.1 C.2.1 q1 ((C.kk.2 2 _ rfl).1 N (fun j => .int (f j))) (fun q => by cases q) (by show ¬ (i < 0 ∨ (arrV _ _ _).slots.size ≤ _); rw [arrV_size]; exact hin) (by show (arrV _ _ _).slots[_]? = _; rw [arrV_read _ _ hlt]) rfl rfl hdg (kk p l e R s m args below meth c B D dA ls H locs C hP hF hL hl)
theorem et_iast {k N : Nat} {f : Nat → Int32} {i : Int32} {x : Int32} (hdg : decode Y.2.1 pc = .ok (.iastore, 1)) (hh : h k = .inl (0, N, .inl f)) (hin : vp_in i N) (kk : et_M sc Y d mc ms Post (pc + 1) lv (st) (va_up h k (.inl (0, N, .inl (upd f i.toNatClampNeg x)))) n nc ns) : et_M sc Y d mc ms Post (pc) lv (.int x :: .int i :: .ref k :: st) h n nc ns := by
  intro p l e R s m args below meth c B D dA ls H locs C hP hF hL hl
  have hk := (hP.arr hh).1
  have q1 : H[B + k]? = some (arrV (dA 0) N (fun j => .int (f j))) := (hP.arr hh).2
  refine W.iast (a := B + k) (rest := st.map (et_em B)) C.1 C.2.1 q1 ((C.kk.2 0 _ rfl).1 N (fun j => .int (f j))) (fun q => by cases q) (by show ¬ (i < 0 ∨ (arrV _ _ _).slots.size ≤ _); rw [arrV_size]; exact hin) rfl rfl hdg fun H1 e1 e2 e3 => ?_
  refine kk p l e R s m args below meth c B D dA ls H1 _ C (hP.put hk ?_ e2 e3) (fun q hq => (e3 q (et_ne hq)).trans (hF q hq)) (fun q hq => ?_) hl
  · show H1[B + k]? = some (arrV (dA 0) N (fun j => .int ((upd f i.toNatClampNeg x) j)))
    rw [e1]
    show some ((arrV (dA 0) N (fun j => .int (f j))).setSlot _ _) = _
    rw [arrV_store]
    congr 2
    funext q
    by_cases hq : q = i.toNatClampNeg
    · subst hq; simp [updV, upd]
    · simp [updV, upd, hq]
  · rcases List.mem_append.mp hq with h1 | h1
    · exact hL q h1
    · rw [List.mem_singleton.mp h1]; exact Nat.le_add_right B k
theorem et_last {k N : Nat} {f : Nat → Int64} {i : Int32} {x : Int64} (hdg : decode Y.2.1 pc = .ok (.lastore, 1)) (hh : h k = .inl (1, N, .inr (.inl f))) (hin : vp_in i N) (kk : et_M sc Y d mc ms Post (pc + 1) lv (st) (va_up h k (.inl (1, N, .inr (.inl (vp_updL f i.toNatClampNeg x))))) n nc ns) : et_M sc Y d mc ms Post (pc) lv (.long x :: .int i :: .ref k :: st) h n nc ns := by
  intro p l e R s m args below meth c B D dA ls H locs C hP hF hL hl
  have hk := (hP.arr hh).1
  have q1 : H[B + k]? = some (arrV (dA 1) N (fun j => .long (f j))) := (hP.arr hh).2
  refine W.last (a := B + k) (rest := st.map (et_em B)) C.1 C.2.1 q1 ((C.kk.2 1 _ rfl).1 N (fun j => .long (f j))) (fun q => by cases q) (by show ¬ (i < 0 ∨ (arrV _ _ _).slots.size ≤ _); rw [arrV_size]; exact hin) rfl rfl hdg fun H1 e1 e2 e3 => ?_
  refine kk p l e R s m args below meth c B D dA ls H1 _ C (hP.put hk ?_ e2 e3) (fun q hq => (e3 q (et_ne hq)).trans (hF q hq)) (fun q hq => ?_) hl
  · show H1[B + k]? = some (arrV (dA 1) N (fun j => .long ((vp_updL f i.toNatClampNeg x) j)))
    rw [e1]
    show some ((arrV (dA 1) N (fun j => .long (f j))).setSlot _ _) = _
    rw [arrV_store]
    congr 2
    funext q
    by_cases hq : q = i.toNatClampNeg
    · subst hq; simp [updV, vp_updL]
    · simp [updV, vp_updL, hq]
  · rcases List.mem_append.mp hq with h1 | h1
    · exact hL q h1
    · rw [List.mem_singleton.mp h1]; exact Nat.le_add_right B k
theorem et_zast {k N : Nat} {f : Nat → Int32} {i : Int32} {x : Int32} (hdg : decode Y.2.1 pc = .ok (.bastore, 1)) (hh : h k = .inl (2, N, .inl f)) (hin : vp_in i N) (kk : et_M sc Y d mc ms Post (pc + 1) lv (st) (va_up h k (.inl (2, N, .inl (upd f i.toNatClampNeg (vp_nar .boolean x))))) n nc ns) : et_M sc Y d mc ms Post (pc) lv (.int x :: .int i :: .ref k :: st) h n nc ns := by
  intro p l e R s m args below meth c B D dA ls H locs C hP hF hL hl
  have hk := (hP.arr hh).1
  have q1 : H[B + k]? = some (arrV (dA 2) N (fun j => .int (f j))) := (hP.arr hh).2
  refine W.zast (a := B + k) (rest := st.map (et_em B)) C.1 C.2.1 q1 ((C.kk.2 2 _ rfl).1 N (fun j => .int (f j))) (fun q => by cases q) (by show ¬ (i < 0 ∨ (arrV _ _ _).slots.size ≤ _); rw [arrV_size]; exact hin) rfl rfl hdg fun H1 e1 e2 e3 => ?_
  refine kk p l e R s m args below meth c B D dA ls H1 _ C (hP.put hk ?_ e2 e3) (fun q hq => (e3 q (et_ne hq)).trans (hF q hq)) (fun q hq => ?_) hl
  · show H1[B + k]? = some (arrV (dA 2) N (fun j => .int ((upd f i.toNatClampNeg (vp_nar .boolean x)) j)))
    rw [e1]
    show some ((arrV (dA 2) N (fun j => .int (f j))).setSlot _ _) = _
    rw [arrV_store]
    congr 2
    funext q
    by_cases hq : q = i.toNatClampNeg
    · subst hq; simp [updV, upd, vp_nar] <;> rfl
    · simp [updV, upd, vp_nar, hq]
  · rcases List.mem_append.mp hq with h1 | h1
    · exact hL q h1
    · rw [List.mem_singleton.mp h1]; exact Nat.le_add_right B k
theorem et_alen {k N : Nat} {f : Nat → Int32} {v : Int32} (hdg : decode Y.2.1 pc = .ok (.arraylength, 1)) (hh : h k = .inl (0, N, .inl f)) (hv : Int32.ofNat N = v) (kk : et_M sc Y d mc ms Post (pc + 1) lv (.int v :: st) h n nc ns) : et_M sc Y d mc ms Post (pc) lv (.ref k :: st) h n nc ns := by
  intro p l e R s m args below meth c B D dA ls H locs C hP hF hL hl
  have q1 : H[B + k]? = some (arrV (dA 0) N (fun j => .int (f j))) := (hP.arr hh).2
  subst hv
  exact W.alen (n := Int32.ofNat N) (a := B + k) (rest := st.map (et_em B)) C.1 C.2.1 q1 ((C.kk.2 0 _ rfl).1 N (fun j => .int (f j))) (by show (arrV _ _ _).slots.size.toInt32 = _; rw [arrV_size] <;> rfl) rfl rfl hdg (kk p l e R s m args below meth c B D dA ls H locs C hP hF hL hl)
theorem et_alenL {k N : Nat} {f : Nat → Int64} {v : Int32} (hdg : decode Y.2.1 pc = .ok (.arraylength, 1)) (hh : h k = .inl (1, N, .inr (.inl f))) (hv : Int32.ofNat N = v) (kk : et_M sc Y d mc ms Post (pc + 1) lv (.int v :: st) h n nc ns) : et_M sc Y d mc ms Post (pc) lv (.ref k :: st) h n nc ns := by
  intro p l e R s m args below meth c B D dA ls H locs C hP hF hL hl
  have q1 : H[B + k]? = some (arrV (dA 1) N (fun j => .long (f j))) := (hP.arr hh).2
  subst hv
  exact W.alen (n := Int32.ofNat N) (a := B + k) (rest := st.map (et_em B)) C.1 C.2.1 q1 ((C.kk.2 1 _ rfl).1 N (fun j => .long (f j))) (by show (arrV _ _ _).slots.size.toInt32 = _; rw [arrV_size] <;> rfl) rfl rfl hdg (kk p l e R s m args below meth c B D dA ls H locs C hP hF hL hl)
theorem et_sload {z : Fin 4} {i b : Nat} (hdg : decode Y.2.1 pc = .ok (.aload_n z, 1)) (hi : (z : Nat) = i) (hj : lv[i]? = some (some (.retAddr b))) (k : et_M sc Y d mc ms Post (pc + 1) lv (.retAddr b :: st) h n nc ns) : et_M sc Y d mc ms Post (pc) lv (st) h n nc ns := by
  intro p l e R s m args below meth c B D dA ls H locs C hP hF hL hl
  exact lv_aload_n (x := b) (rest := st.map (et_em B)) C.1 C.2.1 hdg hi (et_ld hl hj) (k p l e R s m args below meth c B D dA ls H locs C hP hF hL hl)
theorem et_sld {i : Int32} (hdg : decode Y.2.1 pc = .ok (.iaload, 1)) (hin : vp_in i sc.2.1) (kk : et_M sc Y d mc ms Post (pc + 1) lv (.int (sc.2.2 i.toNatClampNeg) :: st) h n nc ns) : et_M sc Y d mc ms Post (pc) lv (.int i :: .retAddr sc.1 :: st) h n nc ns := by
  intro p l e R s m args below meth c B D dA ls H locs C hP hF hL hl
  obtain ⟨⟨scr, g1, g2, g3, g4, g5⟩, g6, -⟩ := C.wd.2.2.2.2.2
  have hlt : i.toNatClampNeg < sc.2.1 := Nat.not_le.mp fun q => hin (Or.inr q)
  exact W.iald (v := .int (sc.2.2 i.toNatClampNeg)) (a := sc.1) (rest := st.map (et_em B)) C.1 C.2.1 (by rw [hF _ g6]; exact g1) g2 g3 (by rw [g4]; exact hin) (g5 _ hlt) rfl rfl hdg (kk p l e R s m args below meth c B D dA ls H locs C hP hF hL hl)
theorem et_slen (hdg : decode Y.2.1 pc = .ok (.arraylength, 1)) (kk : et_M sc Y d mc ms Post (pc + 1) lv (.int (Int32.ofNat sc.2.1) :: st) h n nc ns) : et_M sc Y d mc ms Post (pc) lv (.retAddr sc.1 :: st) h n nc ns := by
  intro p l e R s m args below meth c B D dA ls H locs C hP hF hL hl
  obtain ⟨⟨scr, g1, g2, g3, g4, g5⟩, g6, -⟩ := C.wd.2.2.2.2.2
  exact W.alen (n := Int32.ofNat sc.2.1) (a := sc.1) (rest := st.map (et_em B)) C.1 C.2.1 (by rw [hF _ g6]; exact g1) g2 (by rw [g4] <;> rfl) rfl rfl hdg (kk p l e R s m args below meth c B D dA ls H locs C hP hF hL hl)
end ETR
end
section
section ETR2
variable {sc : et_X} {Y : et_Y} {d mc ms : Nat} {Post : et_R → (Nat → et_MC) → Nat → Prop} {pc : Nat} {lv : List (Option Value)} {st : List Value} {h : Nat → et_MC} {n nc ns : Nat}
theorem et_sumc (B : Nat) (st : List Value) : ((st.map (et_em B)).map fun v => v.category).sum = (st.map fun v => v.category).sum := by
  rw [List.map_map]
  congr 1
  exact List.map_congr_left (fun v _ => et_em_cat B v)
theorem et_objInit {k index : Nat} (hdg : decode Y.2.1 pc = .ok (.invokespecial index, 3)) (h1 : Cond.methodLink Y.1.cls index Lib.objectInit ∈ et_W) (h2 : Cond.instanceMethod Lib.objectInit ∈ et_W) (h3 : Cond.code Lib.objectInit ⟨#[0xb1]⟩ 1 none ∈ et_W) (hst : (st.map fun v => v.category).sum ≤ 8)
    (kk : et_M sc Y d mc ms Post (pc + 3) lv st h n nc ns) : et_M sc Y d mc ms Post pc lv (.ref k :: st) h n nc ns := by
  intro p l e R s m args below meth c B D dA ls H locs C hP hF hL hl
  refine W.objInit (a := B + k) (rest := st.map (et_em B)) C.1 C.2.1 C.own (C.hts _ h1) (C.hts _ h2) (C.hts _ h3) rfl (hl.1.trans C.2.2.1.symm) rfl hdg ?_ ?_ (kk p l e R s m args below meth c B D dA ls H locs C hP hF hL hl)
  · rw [C.rm]
    show 1 ≤ 8 + d
    omega
  · rw [C.rm, et_sumc]
    show 2 * 0 + _ + 12 ≤ 120 + 90 * d
    omega
theorem et_new {index ci : Nat} {Cn : String} {T : u_T} {N : Nat} {fs : List Value} {ty0 : Nat → FieldType} (hdg : decode Y.2.1 pc = .ok (.new index, 3)) (hc : et_cl[ci]? = some (Cn, T, N)) (hin : ∀ w ∈ u_ws Cn T N, w ∈ et_W) (hty : ∀ k, k < N → parseFieldDescriptor (T k).2.2.1 = some (ty0 k))
    (hlk : Cond.classLink Y.1.cls index Cn ∈ et_W) (hins : Cond.instantiable Cn N ∈ et_W) (hini : Cond.initialized Cn ∈ et_W) (hfs : ∀ (B j : Nat), j < N → defaultValue (ty0 j) = vp_V (fs.map (et_em B)) j) (h1 : nc + 1 ≤ mc) (h2 : ns + N ≤ ms)
    (kk : et_M sc Y d mc ms Post (pc + 3) lv (.ref n :: st) (va_up h n (.inr (ci, fs))) (n + 1) (nc + 1) (ns + N)) : et_M sc Y d mc ms Post pc lv st h n nc ns := by
  intro p l e R s m args below meth c B D dA ls H locs C hP hF hL hl
  have hKn := C.kk.1 ci _ hc
  refine W.newcK C.1 C.2.1 C.own (C.hts _ hlk) (C.hts _ hins) (C.hts _ hini) rfl hdg (by rw [C.rm]; exact h1) (by rw [C.rm]; exact h2) hKn.2.1 hP.1 fun H1 kC hkC e1 z1 o1 => ?_
  exact kk p l e R s m args below meth c B D dA ls H1 locs C (hP.push (Or.inr ⟨_, hc, (u_born ty0 C.hts hin hKn hkC e1 hty).to (fun j hj => hfs B j hj)⟩) (by rw [z1, hP.1]) (fun q hq => o1 q (by rw [← hP.1]; exact hq))) (fun q hq => (o1 q (by omega)).trans (hF q hq)) hL hl
theorem et_newi {atype : ArrayType} {x : Int32} {N : Nat} (hdg : decode Y.2.1 pc = .ok (.newarray atype, 2)) (hat : newarray.typeOf atype = .int) (hw : Cond.arrayClass .int ∈ et_W) (hx : ¬ x < 0) (hN : x.toNatClampNeg = N) (hb : N * 4 ≤ 536870912) (h1 : nc + 1 ≤ mc) (h2 : ns + N ≤ ms)
    (kk : et_M sc Y d mc ms Post (pc + 2) lv (.ref n :: st) (va_up h n (.inl (0, N, .inl (fun _ => 0)))) (n + 1) (nc + 1) (ns + N)) : et_M sc Y d mc ms Post pc lv (.int x :: st) h n nc ns := by
  intro p l e R s m args below meth c B D dA ls H locs C hP hF hL hl
  refine va_newaK (rest := st.map (et_em B)) C.1 C.2.1 (by rw [hat]; exact C.hts _ hw) rfl hdg rfl hx hN (by rw [hat]; exact hb) (by rw [C.rm]; exact h1) (by rw [C.rm]; exact h2) hP.1 fun H1 cA e1 z1 o1 hA hNm => ?_
  rw [hat] at e1 hNm
  have hcA : cA = dA 0 := Option.some.inj (hNm.symm.trans (C.kk.2 0 _ rfl).2)
  subst hcA
  exact kk p l e R s m args below meth c B D dA ls H1 locs C (hP.push (Or.inr e1) (by rw [z1, hP.1]) (fun q hq => o1 q (by rw [← hP.1]; exact hq))) (fun q hq => (o1 q (by omega)).trans (hF q hq)) hL hl
theorem et_newl {atype : ArrayType} {x : Int32} {N : Nat} (hdg : decode Y.2.1 pc = .ok (.newarray atype, 2)) (hat : newarray.typeOf atype = .long) (hw : Cond.arrayClass .long ∈ et_W) (hx : ¬ x < 0) (hN : x.toNatClampNeg = N) (hb : N * 8 ≤ 536870912) (h1 : nc + 1 ≤ mc) (h2 : ns + N ≤ ms)
    (kk : et_M sc Y d mc ms Post (pc + 2) lv (.ref n :: st) (va_up h n (.inl (1, N, .inr (.inl (fun _ => 0))))) (n + 1) (nc + 1) (ns + N)) : et_M sc Y d mc ms Post pc lv (.int x :: st) h n nc ns := by
  intro p l e R s m args below meth c B D dA ls H locs C hP hF hL hl
  refine va_newaK (rest := st.map (et_em B)) C.1 C.2.1 (by rw [hat]; exact C.hts _ hw) rfl hdg rfl hx hN (by rw [hat]; exact hb) (by rw [C.rm]; exact h1) (by rw [C.rm]; exact h2) hP.1 fun H1 cA e1 z1 o1 hA hNm => ?_
  rw [hat] at e1 hNm
  have hcA : cA = dA 1 := Option.some.inj (hNm.symm.trans (C.kk.2 1 _ rfl).2)
  subst hcA
  exact kk p l e R s m args below meth c B D dA ls H1 locs C (hP.push (Or.inr e1) (by rw [z1, hP.1]) (fun q hq => o1 q (by rw [← hP.1]; exact hq))) (fun q hq => (o1 q (by omega)).trans (hF q hq)) hL hl
theorem et_newz {atype : ArrayType} {x : Int32} {N : Nat} (hdg : decode Y.2.1 pc = .ok (.newarray atype, 2)) (hat : newarray.typeOf atype = .boolean) (hw : Cond.arrayClass .boolean ∈ et_W) (hx : ¬ x < 0) (hN : x.toNatClampNeg = N) (hb : N * 1 ≤ 536870912) (h1 : nc + 1 ≤ mc) (h2 : ns + N ≤ ms)
    (kk : et_M sc Y d mc ms Post (pc + 2) lv (.ref n :: st) (va_up h n (.inl (2, N, .inl (fun _ => 0)))) (n + 1) (nc + 1) (ns + N)) : et_M sc Y d mc ms Post pc lv (.int x :: st) h n nc ns := by
  intro p l e R s m args below meth c B D dA ls H locs C hP hF hL hl
  refine va_newaK (rest := st.map (et_em B)) C.1 C.2.1 (by rw [hat]; exact C.hts _ hw) rfl hdg rfl hx hN (by rw [hat]; exact hb) (by rw [C.rm]; exact h1) (by rw [C.rm]; exact h2) hP.1 fun H1 cA e1 z1 o1 hA hNm => ?_
  rw [hat] at e1 hNm
  have hcA : cA = dA 2 := Option.some.inj (hNm.symm.trans (C.kk.2 2 _ rfl).2)
  subst hcA
  exact kk p l e R s m args below meth c B D dA ls H1 locs C (hP.push (Or.inr e1) (by rw [z1, hP.1]) (fun q hq => o1 q (by rw [← hP.1]; exact hq))) (fun q hq => (o1 q (by omega)).trans (hF q hq)) hL hl
/-! calls -/
/-- what a call behind its run goes on with, where the caller has no handler -/
theorem et_cont {Pc : et_R → (Nat → et_MC) → Nat → Prop} {mcc msc : Nat} {p : Program} {l : Launch} {e : Env} {R : Room} {s : State} {m : MethodId} {args : Array Value} {below : List Frame} {meth : Method} {c : Code} {B : Nat} {D : va_G} {dA : Nat → ClassId} {ls : Array Slot} {H : Heap} {locs : List Loc} {stk : List Value} {aa : Array Value}
    (C : et_C sc Y d mc ms B D dA p l R s m args meth c) (hF : ∀ q : Nat, q < B → H[q]? = s.heap[q]?) (hL : ∀ q ∈ locs, B ≤ q.base) (hl : lv_has ls Y.2.2.1 (et_ll B 0 lv))
    (hr : et_Run p l e R s m args below meth c H locs nc ns mcc msc (F0 m pc ls stk) (st.map (et_em B)) (et_Qc B D dA Pc aa) (fun q => B ≤ q)) (h1 : nc + mcc ≤ mc) (h2 : ns + msc ≤ ms)
    (kR : ∀ (v : Option Value) (h' : Nat → et_MC) (n' : Nat), Pc (.inl v) h' n' → et_M sc Y d mc ms Post (pc + 3) lv (v.toList ++ st) h' n' (nc + mcc) (ns + msc))
    (kT : ∀ (x : Nat) (h' : Nat → et_MC) (n' : Nat), Pc (.inr x) h' n' → Y.2.2.2.2 = [] ∧ Post (.inr x) h' n') :
    W p l e R s m args below meth c H locs nc ns (et_Q below (et_Qc B D dA Post) args s mc ms (fun q => B ≤ q)) (F0 m pc ls stk) := by
  intro T hT X
  obtain ⟨o, st₀, t, T', L, h0, X', hL', e1, e2, ⟨⟨r, h', n', hp, hP', hO⟩, hF'⟩, hd⟩ := hr T hT X
  have hFT : ∀ q : Nat, q < B → T'.heap[q]? = s.heap[q]? := fun q hq => by rw [e1, hF' q hq, h0]; exact hF q hq
  have hLL : ∀ q ∈ locs ++ L, B ≤ q.base := fun q hq => by
    rcases List.mem_append.mp hq with h | h
    · exact hL q h
    · exact hL' q h
  cases r with
  | inl v =>
    have hO' : o = .returned (v.map (et_em B)) := hO
    subst hO'
    rcases hd with ⟨v', hv', hst⟩ | ⟨x, hx, -⟩
    · cases hv'
      obtain ⟨t2, a1, b1⟩ := kR v h' n' hp p l e R s m args below meth c B D dA ls T'.heap (locs ++ L) C (by rw [e1]; exact hP') hFT hLL hl T' rfl X'
      refine ⟨t2, hst t2 ?_, b1⟩
      have e9 : (v.toList ++ st).map (et_em B) = (v.map (et_em B)).toList ++ st.map (et_em B) := by cases v <;> rfl
      rw [e9] at a1
      exact a1
    · cases hx
  | inr x =>
    obtain ⟨a, ce, hO1, hO2, hO3, hO4⟩ := hO
    subst hO1
    obtain ⟨hh0, hpost⟩ := kT x h' n' hp
    rcases hd with ⟨v', hv', -⟩ | ⟨x', hx, hst⟩
    · cases hv'
    · cases hx
      have hnil : c.exceptionTable.toList = [] := by
        have := C.tab
        rw [hh0] at this
        simpa using this
      obtain ⟨w1, w2, w3, w4, w5⟩ := (stand_widen X' h1 h2).leaveThrown (B + a) (g := { F0 m pc ls stk with stack := st.map (et_em B) }) rfl rfl rfl (fun x hx => by rw [hnil] at hx; cases hx) (hlocks := C.locks)
      refine ⟨_, hst _ w1, .threw (B + a), w2, w3, ⟨⟨.inr x, h', n', hpost, ?_, a, ce, rfl, ?_, ?_, hO4⟩, fun q hq => ?_⟩, w4, locs ++ L, w5, hLL⟩
      · show et_HP D dA B h' n' T'.heap
        rw [e1]; exact hP'
      · show T'.heap[B + a]? = some ce
        rw [e1]; exact hO2
      · show T'.vm.findClass _ = _
        rw [e2]; exact hO3
      · exact hFT q hq
theorem et_cb {Yc : et_Y} {dc mcc msc : Nat} {Pc : et_R → (Nat → et_MC) → Nat → Prop} {av : List Value} {p : Program} {l : Launch} {R : Room} {s : State} {m : MethodId} {args : Array Value} {meth : Method} {c : Code} {B : Nat} {D : va_G} {dA : Nat → ClassId} {H : Heap}
    (C : et_C sc Y d mc ms B D dA p l R s m args meth c) (hP : et_HP D dA B h n H) (hF : ∀ q : Nat, q < B → H[q]? = s.heap[q]?) (hcn : et_Cn sc Yc dc av h n mcc msc Pc) (hd : dc + 1 ≤ d) (hnl : Yc.2.2.1 ≤ 60) (hw : et_cw Yc.1 Yc.2.1 Yc.2.2.1 Yc.2.2.2.1 Yc.2.2.2.2 ∈ et_W) (hini : Cond.initialized Yc.1.cls ∈ et_W) :
    et_CB l R s args H Yc.1 Yc.2.1 Yc.2.2.1 Yc.2.2.2.1 Yc.2.2.2.2 et_W (et_rm dc mcc msc) (va_Pc (av.map (et_em B)) (fun U => et_HP D dA B h n U.heap ∧ et_Wd sc B D dA U)) (et_Qc B D dA Pc) mcc msc (fun q => B ≤ q) (av.map (et_em B)).toArray := by
  refine ⟨hcn l B D dA C.la, rfl, rfl, ?_, ?_, fun w hw a' U hW => word_at hW (et_good w hw) (C.hts w hw), C.hts _ hw, C.hts _ hini, fun U g mk hU hW => ⟨rfl, ?_, ?_⟩⟩
  · rw [C.rm]
    show 8 + dc + 1 ≤ 8 + d
    omega
  · rw [C.rm]
    show 8 + (Yc.2.2.1 + 11) + (120 + 90 * dc) ≤ 120 + 90 * d
    omega
  · show et_HP D dA B h n U.heap
    rw [hU]; exact hP
  · exact et_Wd.moved (u := s) (U := U.calling g mk _) hW (fun q hq => by show U.heap[q]? = _; rw [hU]; exact hF q hq) C.wd
/-- the facts of a method that is called on an object -/
def et_MV (Yc : et_Y) : Prop := et_cw Yc.1 Yc.2.1 Yc.2.2.1 Yc.2.2.2.1 Yc.2.2.2.2 ∈ et_W ∧ Cond.initialized Yc.1.cls ∈ et_W ∧ Cond.instanceMethod Yc.1 ∈ et_W ∧ Cond.selects Yc.1.cls Yc.1 Yc.1 ∈ et_W ∧ Yc.1.cls ≠ "java/lang/invoke/MethodHandle" ∧ Yc.1.cls ≠ "java/lang/invoke/VarHandle" ∧ Yc.2.2.1 ≤ 60
def et_MS (Yc : et_Y) : Prop := et_cw Yc.1 Yc.2.1 Yc.2.2.1 Yc.2.2.2.1 Yc.2.2.2.2 ∈ et_W ∧ Cond.initialized Yc.1.cls ∈ et_W ∧ Cond.static Yc.1 ∈ et_W ∧ Yc.1.cls ≠ "java/lang/invoke/MethodHandle" ∧ Yc.1.cls ≠ "java/lang/invoke/VarHandle" ∧ Yc.2.2.1 ≤ 60
def et_MI (Yc : et_Y) : Prop := et_cw Yc.1 Yc.2.1 Yc.2.2.1 Yc.2.2.2.1 Yc.2.2.2.2 ∈ et_W ∧ Cond.initialized Yc.1.cls ∈ et_W ∧ Cond.instanceMethod Yc.1 ∈ et_W ∧ Yc.1.cls ≠ "java/lang/invoke/MethodHandle" ∧ Yc.1.cls ≠ "java/lang/invoke/VarHandle" ∧ Yc.2.2.1 ≤ 60 ∧ Yc.1.name = "<init>" ∧ Yc.2.2.2.1 = none ∧ Yc.2.2.2.2 = []
def et_lk (own : String) (index : Nat) (y : MethodName) : Prop := Cond.methodLink own index y ∈ et_W ∨ ∃ host, Cond.methodLinkNest own index y host ∈ et_NST
theorem et_lk.use {own : String} {index : Nat} {y : MethodName} (hk : et_lk own index y) {B : Nat} {D : va_G} {dA : Nat → ClassId} {p : Program} {l : Launch} {R : Room} {s : State} {m : MethodId} {args : Array Value} {meth : Method} {c : Code} (C : et_C sc Y d mc ms B D dA p l R s m args meth c) :
    ∃ host, (Cond.methodLink own index y).before args s = true ∨ (Cond.methodLinkNest own index y host).before args s = true := by
  rcases hk with hk | ⟨host, hk⟩
  · exact ⟨"", Or.inl (C.hts _ hk)⟩
  · exact ⟨host, Or.inr (va_Nw.use rfl (C.wd.2.1 _ hk))⟩
theorem et_invV {Yc : et_Y} (mf : et_MV Yc) {dc mcc msc : Nat} {Pc : et_R → (Nat → et_MC) → Nat → Prop} {index k ci : Nat} {As stk fs : List Value} {T : u_T} {N : Nat} (hst : stk = As.reverse ++ .ref k :: st) (hdg : decode Y.2.1 pc = .ok (.invokevirtual index, 3)) (hlk : et_lk Y.1.cls index Yc.1) (hlen : (parseMethodDescriptor Yc.1.desc).map (fun d => d.parameters.length) = some As.length) (hh : h k = .inr (ci, fs)) (hc : et_cl[ci]? = some (Yc.1.cls, T, N)) (hsum : (st.map fun v => v.category).sum ≤ 8)
    (hcn : et_Cn sc Yc dc (.ref k :: As) h n mcc msc Pc) (hd : dc + 1 ≤ d) (h1 : nc + mcc ≤ mc) (h2 : ns + msc ≤ ms)
    (kR : ∀ (v : Option Value) (h' : Nat → et_MC) (n' : Nat), Pc (.inl v) h' n' → et_M sc Y d mc ms Post (pc + 3) lv (v.toList ++ st) h' n' (nc + mcc) (ns + msc))
    (kT : ∀ (x : Nat) (h' : Nat → et_MC) (n' : Nat), Pc (.inr x) h' n' → Y.2.2.2.2 = [] ∧ Post (.inr x) h' n') : et_M sc Y d mc ms Post pc lv stk h n nc ns := by
  intro p l e R s m args below meth c B D dA ls H locs C hP hF hL hl
  subst hst
  obtain ⟨m1, m2, m3, m4, m5, m6, m7⟩ := mf
  obtain ⟨-, cell, q1, q2, q3, -⟩ := hP.obj hh hc
  obtain ⟨host, hlink⟩ := hlk.use C
  have hrun := et_runV (p := p) (e := e) (m := m) (below := below) (meth := meth) (c := c) (locs := locs) (cells := nc) (slots := ns) (host := host) (C := Yc.1.cls) (index := index) (b := B + k) (As := As.map (et_em B)) (rest := st.map (et_em B)) (g := F0 m pc ls ((As.reverse ++ .ref k :: st).map (et_em B))) C.1 C.2.1 C.own (et_cb C hP hF hcn hd m7 m1 m2) hlink (C.hts _ m3) (C.hts _ m4) ⟨m5, m6⟩
    ⟨cell, q1, by rw [q3]; rfl, by rw [q2]; exact (C.kk.1 ci _ hc).2.1⟩ rfl (by rw [List.length_map]; exact hlen) (hl.1.trans C.2.2.1.symm) (by show (As.reverse ++ .ref k :: st).map (et_em B) = _; rw [List.map_append, List.map_reverse]; rfl) (by rw [et_sumc]; show 2 * 0 + _ ≤ 8; omega) hdg (by rw [C.rm]; exact ⟨h1, h2⟩)
  exact et_cont C hF hL hl hrun h1 h2 kR kT
theorem et_invS {Yc : et_Y} (mf : et_MS Yc) {dc mcc msc : Nat} {Pc : et_R → (Nat → et_MC) → Nat → Prop} {index : Nat} {As stk : List Value} (hst : stk = As.reverse ++ st) (hdg : decode Y.2.1 pc = .ok (.invokestatic index, 3)) (hlk : et_lk Y.1.cls index Yc.1) (hlen : (parseMethodDescriptor Yc.1.desc).map (fun d => d.parameters.length) = some As.length) (hsum : (st.map fun v => v.category).sum ≤ 8)
    (hcn : et_Cn sc Yc dc As h n mcc msc Pc) (hd : dc + 1 ≤ d) (h1 : nc + mcc ≤ mc) (h2 : ns + msc ≤ ms)
    (kR : ∀ (v : Option Value) (h' : Nat → et_MC) (n' : Nat), Pc (.inl v) h' n' → et_M sc Y d mc ms Post (pc + 3) lv (v.toList ++ st) h' n' (nc + mcc) (ns + msc))
    (kT : ∀ (x : Nat) (h' : Nat → et_MC) (n' : Nat), Pc (.inr x) h' n' → Y.2.2.2.2 = [] ∧ Post (.inr x) h' n') : et_M sc Y d mc ms Post pc lv stk h n nc ns := by
  intro p l e R s m args below meth c B D dA ls H locs C hP hF hL hl
  subst hst
  obtain ⟨m1, m2, m3, m5, m6, m7⟩ := mf
  obtain ⟨host, hlink⟩ := hlk.use C
  have hcode := C.hts _ m1
  have hnm : ∃ mk, s.methodNamed? Yc.1 = some mk := by
    cases h9 : s.methodNamed? Yc.1 with
    | some mk => exact ⟨mk, rfl⟩
    | none =>
      exfalso
      have h8 := C.hts _ m3
      simp [Cond.before, Cond.holds, Cond.value, h9] at h8
  have hrun := et_runS (p := p) (e := e) (m := m) (below := below) (meth := meth) (c := c) (locs := locs) (cells := nc) (slots := ns) (host := host) (index := index) (As := As.map (et_em B)) (rest := st.map (et_em B)) (g := F0 m pc ls ((As.reverse ++ st).map (et_em B))) C.1 C.2.1 C.own (et_cb C hP hF hcn hd m7 m1 m2) hlink (C.hts _ m3) ⟨m5, m6⟩ hnm
    rfl (by rw [List.length_map]; exact hlen) (hl.1.trans C.2.2.1.symm) (by show (As.reverse ++ st).map (et_em B) = _; rw [List.map_append, List.map_reverse]) (by rw [et_sumc]; show 2 * 0 + _ ≤ 8; omega) hdg (by rw [C.rm]; exact ⟨h1, h2⟩)
  exact et_cont C hF hL hl hrun h1 h2 kR kT
theorem et_invI {Yc : et_Y} (mf : et_MI Yc) {dc mcc msc : Nat} {Pc : et_R → (Nat → et_MC) → Nat → Prop} {index k : Nat} {As stk : List Value} (hst : stk = As.reverse ++ .ref k :: st) (hdg : decode Y.2.1 pc = .ok (.invokespecial index, 3)) (hlk : et_lk Y.1.cls index Yc.1) (hlen : (parseMethodDescriptor Yc.1.desc).map (fun d => d.parameters.length) = some As.length) (hsum : (st.map fun v => v.category).sum ≤ 8)
    (hcn : et_Cn sc Yc dc (.ref k :: As) h n mcc msc Pc) (hd : dc + 1 ≤ d) (h1 : nc + mcc ≤ mc) (h2 : ns + msc ≤ ms)
    (kR : ∀ (v : Option Value) (h' : Nat → et_MC) (n' : Nat), Pc (.inl v) h' n' → et_M sc Y d mc ms Post (pc + 3) lv (v.toList ++ st) h' n' (nc + mcc) (ns + msc))
    (kT : ∀ (x : Nat) (h' : Nat → et_MC) (n' : Nat), Pc (.inr x) h' n' → Y.2.2.2.2 = [] ∧ Post (.inr x) h' n') : et_M sc Y d mc ms Post pc lv stk h n nc ns := by
  intro p l e R s m args below meth c B D dA ls H locs C hP hF hL hl
  subst hst
  obtain ⟨m1, m2, m3, m5, m6, m7, m8, m9, m10⟩ := mf
  obtain ⟨host, hlink⟩ := hlk.use C
  have hcb := et_cb C hP hF hcn hd m7 m1 m2
  rw [m9, m10] at hcb
  have hrun := et_runI (p := p) (e := e) (m := m) (below := below) (meth := meth) (c := c) (locs := locs) (cells := nc) (slots := ns) (host := host) (index := index) (b := B + k) (As := As.map (et_em B)) (rest := st.map (et_em B)) (g := F0 m pc ls ((As.reverse ++ .ref k :: st).map (et_em B))) C.1 C.2.1 C.own hcb hlink (C.hts _ m3) m8 ⟨m5, m6⟩
    rfl (by rw [List.length_map]; exact hlen) (hl.1.trans C.2.2.1.symm) (by show (As.reverse ++ .ref k :: st).map (et_em B) = _; rw [List.map_append, List.map_reverse]; rfl) (by rw [et_sumc]; show 2 * 0 + _ ≤ 8; omega) hdg (by rw [C.rm]; exact ⟨h1, h2⟩)
  exact et_cont C hF hL hl hrun h1 h2 kR kT
end ETR2
end
section
section ETT
variable {p : Program} {l : Launch} {e : Env} {R : Room} {s : State} {m : MethodId} {args : Array Value} {below : List Frame} {meth : Method} {c : Code} {T : State} {locs : List Loc} {cells slots : Nat}
set_option maxHeartbeats 2000000 in
/-- new X("..") is thrown: the new cell alone has changed -/
theorem et_ctor (X : Stand p l e R s m args below meth c T locs cells slots) (hexec : p.tables.exec = Jvm.exec) (htr : e.platform.stackTraces = false) {own cls : String} {names : List String} {ic : Nat}
    (hown : s.vm.findClass own = some m.cls) (hcls : Bundle.fit cls = true) (hnames : ∀ q ∈ names, Bundle.fit q = true) (hA : ∀ w ∈ Bundle.ownAtoms own ic cls names, w.before args s = true)
    {B : Nat} (hF : ∀ q : Nat, q < B → T.heap[q]? = s.heap[q]?) (hst : et_stF B s "UNASSIGNED_STACK" "[Ljava/lang/StackTraceElement;")
    {a : Addr} (ha : B ≤ a) {cX : ClassId} {kX : Class} (hf : s.vm.findClass cls = some cX) (hk : s.vm.classes[cX]? = some kX) (hcell : T.heap[a]? = some (freshCell cX kX)) {msg : Value} (hmsg : msg.isRef = true)
    {g : JFrame} (hg : g.method = m) (hsize : g.locals.size = c.maxLocals) (hlocked : g.locked = none) (hentered : g.entered = []) {rest : List Value} (hstack : g.stack = msg :: .ref a :: .ref a :: rest)
    (hd1 : decode c.code g.pc = .ok (.invokespecial ic, 3)) (hd2 : decode c.code (g.pc + 3) = .ok (.athrow, 1)) (hout : ∀ x ∈ c.exceptionTable.toList, covers x (g.pc + 3) = false)
    (hRf : names.length + 3 < R.frames) (hRl : 2 * g.monitorRoom + ((Value.ref a :: rest).map fun v => v.category).sum + (13 * (names.length + 1) + 42) ≤ R.locals) (hlocks : meth.locks = false) :
    ∃ (T' : State) (ce : Cell) (L : List Loc), (∀ q ∈ L, q.base = a) ∧ T'.heap.size = T.heap.size ∧ (∀ q : Nat, q ≠ a → T'.heap[q]? = T.heap[q]?) ∧ T'.heap[a]? = some ce ∧ ce.cls = cX ∧ ce.vm.isStatics = false ∧
      Steps p.tables e below (T.setTop g) (T'.setFrames (.throwing a :: below)) ∧ (T'.setFrames (.throwing a :: below)).status = .running ∧ Ended (T'.setFrames (.throwing a :: below)) below (.threw a) ∧ s.WarmedH (T'.setFrames (.throwing a :: below)).vm ∧
      s.sameButNew ({ T'.setFrames (.throwing a :: below) with vm := s.vm } : State) (locs ++ L) cells slots := by
  have hpl : e.platform.magicAccessors = ({} : Platform).magicAccessors := by rw [X.admits.platform]
  have w : ∀ x, x ∈ Bundle.ownAtoms own ic cls names → x.holds args s none s [] = true := fun x hx => hA x hx
  obtain ⟨TC, Z0, L, -, Ty⟩ := ThrowableC.of_atoms (args := args) (s := s) (pl := e.platform) (by rw [X.admits.platform]) (by rw [X.admits.platform]) hpl (fun x hx => hA x (by simp [Bundle.ownAtoms, hx]))
  obtain ⟨Z, M, LZ, LM, hnZ⟩ := Init0T.ofS_atoms (args := args) hpl L Ty (fun x hx => hA x (by simp [Bundle.ownAtoms, hx]))
  obtain ⟨P1, Ps, hlen, L1, hL, hP1m, hlink1, hlink⟩ := Bundle.chainS (args := args) hpl hnZ names cls hcls hnames (fun x hx => hA x (by simp [Bundle.ownAtoms, hx]))
  have hP1 : P1.m.cls = cX := Option.some.inj ((findClass_of_methodNamed hP1m).symm.trans hf)
  subst hP1
  obtain ⟨c1, kX', hc1, hk', hord, -, -, hn6⟩ := Cond.instantiable_spec (w (.instantiable cls 6) (by simp [Bundle.ownAtoms]))
  cases Option.some.inj (hc1.symm.trans hf)
  cases Option.some.inj (hk.symm.trans hk')
  have sel : ∀ y, y = Bundle.tFill0 ∨ y = Bundle.tFill → ∀ mk, s.methodNamed? y = some mk → selectMethod e.platform s.vm P1.m.cls mk = .method mk := by
    intro y hy mk hmk
    have hy2 : (Cond.selects cls y y).holds args s none s [] = true := by
      rcases hy with rfl | rfl <;> exact w _ (by simp [Bundle.ownAtoms])
    have hy3 : y.cls ≠ "java/lang/invoke/MethodHandle" ∧ y.cls ≠ "java/lang/invoke/VarHandle" := by
      rcases hy with rfl | rfl <;> decide
    obtain ⟨c2, r2, m2, q1, q2, q3, q4, -⟩ := Cond.selects_spec hy2
    cases Option.some.inj (q1.symm.trans hf)
    cases Option.some.inj (q2.symm.trans (State.methodFound?_of_named hmk hy3))
    cases Option.some.inj (q3.symm.trans hmk)
    rw [Launch.admits_selectMethod X.admits]; exact q4
  have hsel0 := sel _ (Or.inl rfl) _ Ty.fill0
  have hselF := sel _ (Or.inr rfl) _ Ty.fill
  obtain ⟨cS, hcS, hiss⟩ := Ty.statics
  obtain ⟨u0, hu0⟩ := Cond.staticRefV Ty.unassigned L.unassignedStatic L.statics hcS hiss (w (.isRef (.static Bundle.tN "UNASSIGNED_STACK" Bundle.steD)) (by simp [Bundle.ownAtoms]))
  obtain ⟨sen, hsen⟩ := Cond.staticRefV Ty.sentinel L.sentinelStatic L.statics hcS hiss (w (.isRef (.static Bundle.tN "SUPPRESSED_SENTINEL" Bundle.listD)) (by simp [Bundle.ownAtoms]))
  have haS : TC.aS < B := by
    obtain ⟨c9, k9, i9, f9, a9, cell9, v9, h1, h2, h3, h4, h5, -⟩ := hst
    have e9 := Option.some.inj (h2.symm.trans Ty.unassigned)
    simp only [Prod.mk.injEq] at e9
    obtain ⟨-, rfl, -, -⟩ := e9
    have := h4.symm.trans L.statics
    cases this
    exact h5
  have hcS' : T.heap[TC.aS]? = some cS := by rw [hF _ haS]; exact hcS
  have hne : TC.aS ≠ a := Nat.ne_of_lt (Nat.lt_of_lt_of_le haS ha)
  have hunk : cS.vm ≠ .unknown := fun h => by rw [h] at hiss; cases hiss
  obtain ⟨ci198, i198, fB, hk198, hg198, ha198, hsB, -, hnB, htB, hffB⟩ := Cond.ownField (t := .object "java/lang/Object") Ty.found L.cls (by decide +kernel) (w (.fieldLink Bundle.tN 198 Bundle.tN "backtrace" "Ljava/lang/Object;") (by simp [Bundle.ownAtoms])) (w (.lays Bundle.tN Bundle.tN "backtrace" "Ljava/lang/Object;") (by simp [Bundle.ownAtoms])) e.platform hpl
  obtain ⟨iM, hffM⟩ := Ty.msg
  obtain ⟨tyC, dC, hdC, hdnC⟩ := Cond.laysAt hf hk Ty.cause (w (.lays cls Bundle.tN "cause" "Ljava/lang/Throwable;") (by simp [Bundle.ownAtoms]))
  obtain ⟨tyS, dS, hdS, hdnS⟩ := Cond.laysAt hf hk Ty.stack (w (.lays cls Bundle.tN "stackTrace" Bundle.steD) (by simp [Bundle.ownAtoms]))
  obtain ⟨tyP, dP, hdP, hdnP⟩ := Cond.laysAt hf hk Ty.supp (w (.lays cls Bundle.tN "suppressedExceptions" Bundle.listD) (by simp [Bundle.ownAtoms]))
  obtain ⟨tyM, dM, hdM, hdnM⟩ := Cond.laysAt hf hk hffM (w (.lays cls Bundle.tN "detailMessage" "Ljava/lang/String;") (by simp [Bundle.ownAtoms]))
  obtain ⟨tyB, dB, hdB, hdnB⟩ := Cond.laysAt hf hk hffB (w (.lays cls Bundle.tN "backtrace" "Ljava/lang/Object;") (by simp [Bundle.ownAtoms]))
  have bC := Cond.laysApart hdB hdC hdnB hdnC (by rw [hnB, Ty.causeName]; decide)
  have bS := Cond.laysApart hdB hdS hdnB hdnS (by rw [hnB, Ty.stackName]; decide)
  have bP := Cond.laysApart hdB hdP hdnB hdnP (by rw [hnB, Ty.suppName]; decide)
  have hskip : SkipFacts TC e.platform s (fun u => u) u0 ((preparedCellV TC.toThrowableT (freshCell P1.m.cls kX) a u0 sen).withEntry T.cur) := by
    refine ⟨{ ci198 := ci198, i198 := i198, fBack := fB }, ⟨hk198, hg198, ha198, hsB⟩, ?_, fun _ _ => rfl⟩
    have h9 := fresh_default (c := P1.m.cls) tyB
    rw [htB] at h9
    simpa [preparedCellV, Cell.setSlot, Cell.withEntry, Array.getElem?_setIfInBounds, bC, bS, bP, bC.symm, bS.symm, bP.symm, defaultValue] using h9
  obtain ⟨tm, methC, cdC, kC, vm₁, hnC, -, -, -, -, -, -, -, hW₁, st1⟩ := Steps.initColdS (tb := p.tables) (e := e) (below := below) (s := s) (U := T) X.here hexec X.warmed hpl hown (t := Bundle.initS cls) rfl rfl (Bundle.fit_spec hcls).2
    (w (.methodLink own ic (Bundle.initS cls)) (by simp [Bundle.ownAtoms])) (hA (.instanceMethod (Bundle.initS cls)) (by cases names <;> simp [Bundle.ownAtoms, Bundle.chainSAtoms, Bundle.passSAtoms])) (bytes := Bundle.six) (maxL := 2) (hA (.code (Bundle.initS cls) Bundle.six 2 none) (by cases names <;> simp [Bundle.ownAtoms, Bundle.chainSAtoms, Bundle.passSAtoms]))
    (f := g) hg (a := a) (msg := msg) (rest := .ref a :: rest) hstack hd1
  cases Option.some.inj (hnC.symm.trans hP1m)
  obtain ⟨vm₂, X₂, st2⟩ := (X.noted hW₁).ctorMessageOffV hexec (g := { g with stack := .ref a :: rest }) hg hsize TC L Z LZ M LM (P1 :: Ps)
    (fun P hP => by rcases List.mem_cons.mp hP with rfl | hP; exact L1; exact hL P hP) ⟨hlink1, hlink⟩ (u0 := u0) (sen := sen) (self := a) hmsg (cell := freshCell P1.m.cls kX) (cellS := cS)
    hcell (fun _ => by simp) (by simp) rfl rfl hsel0 hselF hcS' hne hunk hu0 hsen
    (Takes.of_laid hk hord tyC (by rw [Ty.causeType]; rfl)) (Takes.of_laid hk hord tyS (by rw [Ty.stackType]; exact fits_refV_array _ u0)) (Takes.of_laid hk hord tyP (by rw [Ty.suppType]; exact fits_refV_object _ sen))
    (Takes.of_laid hk hord tyM (by rw [Ty.msgType]; exact fits_refV_object _ ⟨msg, hmsg⟩)) Ty.objLocals hskip htr [] hd1
    (by simp only [List.length_cons, hlen]; omega) (by simp only [List.length_cons, hlen]; exact hRl)
  obtain ⟨hwalk, hrun, hended, hWU, hsame⟩ := X₂.athrowLeaves hexec (g := { g with stack := .ref a :: rest, pc := g.pc + 3 }) hg hlocked hentered hout (a := a) (rest := rest) rfl hd2 (hlocks := hlocks)
  have hlt : a < ((T.setVm vm₁).setVm vm₂).heap.size := (Array.getElem?_eq_some_iff.mp hcell).1
  refine ⟨_, _, _, ?_, ?_, ?_, heapAt_setCell_self _ hlt, rfl, rfl, st1 _ (fun acts => ?_), hrun, hended, hWU, hsame⟩
  · intro q hq
    simp only [List.mem_cons, List.not_mem_nil, or_false] at hq
    rcases hq with rfl | rfl | rfl | rfl | rfl <;> rfl
  · rw [size_setCell]; rfl
  · intro q hq
    rw [heapAt_setCell_ne _ (Ne.symm hq)]; rfl
  · rw [doInvoke_state]
    exact st2 _ hwalk
end ETT
section ETT2
variable {sc : et_X} {Y : et_Y} {d mc ms : Nat} {Post : et_R → (Nat → et_MC) → Nat → Prop} {pc : Nat} {lv : List (Option Value)} {st : List Value} {h : Nat → et_MC} {n nc ns : Nat}
theorem et_nst {B : Nat} {D : va_G} {dA : Nat → ClassId} {s : State} {args : Array Value} (h : et_Wd sc B D dA s) {w : Cond} (hw : w ∈ et_NST) : w.before args s = true := by
  have h7 := h.2.1 w hw
  have h8 := et_NST_ok w hw
  cases w <;> first | exact va_Nw.use rfl h7 | exact absurd h8 (by simp [et_isN])
/-- the words of the tables that a throw needs; the two of the heap beside them -/
def et_thr (own : String) (ic : Nat) (X : String) : Prop := ∀ w ∈ Bundle.ownAtoms own ic X ["java/lang/RuntimeException", "java/lang/Exception"], w ∈ et_W ∨ w ∈ et_SW ∨ w ∈ et_NST
theorem et_SW_of {B : Nat} {s : State} {args : Array Value} (h1 : et_stF B s "UNASSIGNED_STACK" "[Ljava/lang/StackTraceElement;") (h2 : et_stF B s "SUPPRESSED_SENTINEL" "Ljava/util/List;") : ∀ w ∈ et_SW, w.before args s = true := by
  have key : ∀ nm d, et_stF B s nm d → (Cond.laysStatic "java/lang/Throwable" nm d).before args s = true ∧ (Cond.isRef (.static "java/lang/Throwable" nm d)).before args s = true := by
    intro nm d hq
    obtain ⟨c, k, i, f, a, cell, v, h1, h2, h3, h4, h5, h6, h7, h8, h9, h10, h11, h12⟩ := hq
    constructor
    · simp [Cond.before, Cond.holds, Cond.value, h1, h2, h3, h4, h6, h7, h8, h9, h10]
    · cases v <;> first | (cases h12; done) | simp [Cond.before, Cond.holds, Cond.value, Term.eval, State.fieldNamed?, h2, h3, h4, h6, h7, h11]
  intro w hw
  simp only [et_SW, List.mem_cons, List.not_mem_nil, or_false] at hw
  rcases hw with rfl | rfl | rfl | rfl
  · exact (key _ _ h1).1
  · exact (key _ _ h1).2
  · exact (key _ _ h2).1
  · exact (key _ _ h2).2
set_option maxHeartbeats 2000000 in
theorem et_throw {ix kx ic x : Nat} (tx : String) (hd0 : decode Y.2.1 pc = .ok (.new ix, 3)) (hd1 : decode Y.2.1 (pc + 3) = .ok (.dup, 1)) (hd2 : decode Y.2.1 (pc + 3 + 1) = .ok (.ldc kx, 2)) (hd3 : decode Y.2.1 (pc + 3 + 1 + 2) = .ok (.invokespecial ic, 3)) (hd4 : decode Y.2.1 (pc + 3 + 1 + 2 + 3) = .ok (.athrow, 1))
    (hstr : (Y.1.cls, kx, tx) ∈ et_STR) (hlk : Cond.classLink Y.1.cls ix (et_exn x) ∈ et_W) (hini : Cond.initialized (et_exn x) ∈ et_W) (hins : Cond.instantiable (et_exn x) 6 ∈ et_W) (hthr : et_thr Y.1.cls ic (et_exn x)) (hfit : Bundle.fit (et_exn x) = true) (hhh : Y.2.2.2.2 = []) (hsum : (st.map fun v => v.category).sum ≤ 8) (h1 : nc + 1 ≤ mc) (h2 : ns + 6 ≤ ms)
    (hp : Post (.inr x) (va_up h n et_void) (n + 1)) : et_M sc Y d mc ms Post pc lv st h n nc ns := by
  intro p l e R s m args below meth c B D dA ls H locs C hP hF hL hl
  obtain ⟨cX, kX, hfX, hkX, -⟩ := Cond.instantiable_spec (C.hts _ hins)
  refine W.newcK C.1 C.2.1 C.own (C.hts _ hlk) (C.hts _ hins) (C.hts _ hini) rfl hd0 (by rw [C.rm]; exact h1) (by rw [C.rm]; exact h2) hfX hP.1 fun H1 kC hkC e1 z1 o1 => ?_
  cases hkX.symm.trans hkC
  refine lv_dup (va := .ref (B + n)) (rest := st.map (et_em B)) C.1 C.2.1 hd1 rfl ?_
  obtain ⟨q, hq⟩ := C.wd.2.2.2.1 _ hstr
  refine va_ldcS C.1 C.2.1 C.own hq hd2 ?_
  intro T hT X
  have hnil : c.exceptionTable.toList = [] := by
    have := C.tab
    rw [hhh] at this
    simpa using this
  have hFT : ∀ q : Nat, q < B → T.heap[q]? = s.heap[q]? := fun q hq => by rw [hT, o1 q (by omega)]; exact hF q hq
  obtain ⟨T', ce, L, g1, g2, g3, g4, g5, g6, g7, g8, g9, g10, g11⟩ := et_ctor X C.1 (C.la e X.admits) (own := Y.1.cls) (cls := et_exn x) (names := ["java/lang/RuntimeException", "java/lang/Exception"]) (ic := ic) C.own hfit (by decide)
    (fun w hw => (hthr w hw).elim (fun z => C.hts _ z) (fun z => z.elim (fun z => et_SW_of C.wd.2.2.1.1 C.wd.2.2.1.2 w z) (fun z => et_nst C.wd z))) (B := B) hFT C.wd.2.2.1.1 (a := B + n) (Nat.le_add_right B n) hfX hkX (by rw [hT]; exact e1) (msg := .ref q) rfl
    (g := F0 m (pc + 3 + 1 + 2) ls (.ref q :: .ref (B + n) :: .ref (B + n) :: st.map (et_em B))) rfl (hl.1.trans C.2.2.1.symm) rfl rfl (rest := st.map (et_em B)) rfl (by rw [C.2.1]; exact hd3) (by rw [C.2.1]; exact hd4) (fun x hx => by rw [hnil] at hx; cases hx)
    (by rw [C.rm]; show 2 + 3 < 8 + d; omega) (by rw [C.rm, List.map_cons, List.sum_cons, et_sumc]; show 2 * 0 + (1 + _) + (13 * (2 + 1) + 42) ≤ 120 + 90 * d; omega) C.locks
  have X9 := g11.mono h1 h2
  refine ⟨_, g7, .threw (B + n), g8, g9, ⟨⟨.inr x, va_up h n et_void, n + 1, hp, ?_, n, ce, rfl, g4, ?_, g6⟩, fun q hq => ?_⟩, g10, locs ++ L, X9, fun q hq => ?_⟩
  · show et_HP D dA B (va_up h n et_void) (n + 1) T'.heap
    refine hP.push (Or.inl rfl) (by rw [g2, hT, z1, hP.1]) (fun q hq => ?_)
    rw [hP.1] at hq
    rw [g3 q (by omega), hT]
    exact o1 q hq
  · have := g10.alike.findClass (et_exn x)
    show T'.vm.findClass _ = _
    rw [g5, ← hfX]
    exact this none
  · show T'.heap[q]? = _
    rw [g3 q (by omega)]
    exact hFT q hq
  · rcases List.mem_append.mp hq with h9 | h9
    · exact hL q h9
    · rw [g1 q h9]; exact Nat.le_add_right B n
end ETT2
end
section
section ETK
variable {sc : et_X} {Y : et_Y} {d mc ms : Nat} {Post : et_R → (Nat → et_MC) → Nat → Prop} {pc : Nat} {lv : List (Option Value)} {st : List Value} {h : Nat → et_MC} {n nc ns : Nat}
theorem et_nn {z : Int32} (hz : ¬ z < 0) : z.toInt = (z.toNatClampNeg : Int) := by
  have hz0 : (0 : Int) ≤ z.toInt := by
    have := Int32.not_lt.mp hz
    simpa using Int32.le_iff_toInt_le.mp this
  show z.toInt = ((z.toInt.toNat : Nat) : Int)
  omega
theorem et_copy {index k0 k1 n0 n1 : Nat} {f g : Nat → Int32} {sp dp z : Int32} (hdg : decode Y.2.1 pc = .ok (.invokestatic index, 3)) (w1 : Cond.methodLink Y.1.cls index arraycopyName ∈ et_W) (w2 : Cond.native arraycopyName ∈ et_W) (w3 : Cond.static arraycopyName ∈ et_W) (w4 : Cond.initialized "java/lang/System" ∈ et_W)
    (hh0 : h k0 = .inl (0, n0, .inl f)) (hh1 : h k1 = .inl (0, n1, .inl g)) (h1 : ¬ sp < 0) (h2 : ¬ dp < 0) (h3 : ¬ z < 0) (h4 : sp.toNatClampNeg + z.toNatClampNeg ≤ n0) (h5 : dp.toNatClampNeg + z.toNatClampNeg ≤ n1) (hsum : (st.map fun v => v.category).sum ≤ 8)
    (kk : et_M sc Y d mc ms Post (pc + 3) lv st (va_up h k1 (.inl (0, n1, .inl (va_cpy f g sp.toNatClampNeg dp.toNatClampNeg z.toNatClampNeg)))) n nc ns) : et_M sc Y d mc ms Post pc lv (.int z :: .int dp :: .ref k1 :: .int sp :: .ref k0 :: st) h n nc ns := by
  intro p l e R s m args below meth c B D dA ls H locs C hP hF hL hl T hT X
  obtain ⟨-, q0⟩ := hP.arr hh0
  obtain ⟨hk1, q1⟩ := hP.arr hh1
  have hc0 : T.heap[B + k0]? = some (vp_cell (dA 0) (n0, .inl f)) := by rw [hT]; exact q0
  have hc1 : T.heap[B + k1]? = some (vp_cell (dA 0) (n1, .inl g)) := by rw [hT]; exact q1
  obtain ⟨-, k9, hk9, cm9, hkk9⟩ := (C.kk.2 0 _ rfl).1 n0 (fun j => .int (f j))
  obtain ⟨vm', X', step⟩ := X.arraycopy C.1 C.own (C.hts _ w1) (C.hts _ w2) (C.hts _ w3) (C.hts _ w4) (srcPos := sp) (destPos := dp) (n := z) hc0 hc1
    (fun _ h => by cases h) (fun _ h => by cases h) (fun h => by cases h) (fun h => by cases h) hk9 hk9 hkk9 hkk9 rfl h1 h2 h3
    (by rw [et_nn h1, et_nn h3]; show ¬ _ > ((arrV (dA 0) n0 (fun j => .int (f j))).slots.size : Int); rw [arrV_size]; omega)
    (by rw [et_nn h2, et_nn h3]; show ¬ _ > ((arrV (dA 0) n1 (fun j => .int (g j))).slots.size : Int); rw [arrV_size]; omega)
    (fun vm₁ _ i hi => by
      have e9 : (vp_cell (dA 0) (n0, .inl f)).slots.getD (sp.toNatClampNeg + i) .null = .int (f (sp.toNatClampNeg + i)) := by
        show (arrV (dA 0) n0 (fun j => .int (f j))).slots.getD _ _ = _
        rw [Array.getD_eq_getD_getElem?, arrV_read _ _ (by omega)]
        rfl
      rw [e9]
      exact ⟨rfl, trivial⟩)
    (g := F0 m pc ls (.int z :: .int dp :: .ref (B + k1) :: .int sp :: .ref (B + k0) :: st.map (et_em B))) rfl (hl.1.trans C.2.2.1.symm) (rest := st.map (et_em B)) rfl (by rw [C.2.1]; exact hdg) (by rw [C.rm]; show 1 ≤ 8 + d; omega) (by rw [C.rm, et_sumc]; show 2 * 0 + _ + (7 + 11) ≤ 120 + 90 * d; omega)
  have ecp : copied (vp_cell (dA 0) (n0, .inl f)) (vp_cell (dA 0) (n1, .inl g)) sp dp z = vp_cell (dA 0) (n1, .inl (va_cpy f g sp.toNatClampNeg dp.toNatClampNeg z.toNatClampNeg)) := va_copied (fun z => .int z) (dA 0) (dA 0) f g h4
  rw [ecp] at X' step
  have hlt : B + k1 < H.size := (Array.getElem?_eq_some_iff.mp q1).1
  have oq : ∀ (x : Cell) (q : Nat), q ≠ B + k1 → (H.setIfInBounds (B + k1) x)[q]? = H[q]? := fun x q hq => by simp [Array.getElem?_setIfInBounds, Ne.symm hq]
  obtain ⟨t, a1, b1⟩ := kk p l e R s m args below meth c B D dA ls (H.setIfInBounds (B + k1) (vp_cell (dA 0) (n1, .inl (va_cpy f g sp.toNatClampNeg dp.toNatClampNeg z.toNatClampNeg)))) _ C
    (hP.put hk1 (show (H.setIfInBounds (B + k1) _)[B + k1]? = some _ by simp [Array.getElem?_setIfInBounds, hlt]; rfl) (by simp) (oq _)) (fun q hq => (oq _ q (et_ne hq)).trans (hF q hq)) (fun q hq => by
      rcases List.mem_append.mp hq with h9 | h9
      · exact hL q h9
      · obtain ⟨y, -, hy⟩ := List.mem_map.mp h9
        rw [← hy]
        exact Nat.le_add_right B k1) hl _ (by rw [← hT]; rfl) X'
  exact ⟨t, step t a1, b1⟩
/-- an array of objects, of rows -/
theorem et_ald3 {k N r : Nat} {f : Nat → Option Nat} {i : Int32} (hdg : decode Y.2.1 pc = .ok (.aaload, 1)) (hh : h k = .inl (3, N, .inr (.inr (.inr (.inr f))))) (hin : vp_in i N) (hr : f i.toNatClampNeg = some r) (kk : et_M sc Y d mc ms Post (pc + 1) lv (.ref r :: st) h n nc ns) : et_M sc Y d mc ms Post pc lv (.int i :: .ref k :: st) h n nc ns := by
  intro p l e R s m args below meth c B D dA ls H locs C hP hF hL hl
  have q1 : H[B + k]? = some (arrV (dA 3) N (fun j => va_rf ((f j).map (fun k => B + k)))) := (hP.arr hh).2
  have hlt : i.toNatClampNeg < N := Nat.not_le.mp fun q => hin (Or.inr q)
  exact W.aald (v := .ref (B + r)) (a := B + k) (rest := st.map (et_em B)) C.1 C.2.1 q1 ((C.kk.2 3 _ rfl).1 N (fun j => va_rf ((f j).map (fun k => B + k)))) rfl (fun q => by cases q) (by show ¬ (i < 0 ∨ (arrV _ _ _).slots.size ≤ _); rw [arrV_size]; exact hin) (by show (arrV _ _ (fun j => va_rf ((f j).map (fun k => B + k)))).slots[_]? = _; rw [arrV_read _ _ hlt, hr]; rfl) rfl rfl hdg (kk p l e R s m args below meth c B D dA ls H locs C hP hF hL hl)
theorem et_ald4 {k N r : Nat} {f : Nat → Option Nat} {i : Int32} (hdg : decode Y.2.1 pc = .ok (.aaload, 1)) (hh : h k = .inl (4, N, .inr (.inr (.inr (.inr f))))) (hin : vp_in i N) (hr : f i.toNatClampNeg = some r) (kk : et_M sc Y d mc ms Post (pc + 1) lv (.ref r :: st) h n nc ns) : et_M sc Y d mc ms Post pc lv (.int i :: .ref k :: st) h n nc ns := by
  intro p l e R s m args below meth c B D dA ls H locs C hP hF hL hl
  have q1 : H[B + k]? = some (arrV (dA 4) N (fun j => va_rf ((f j).map (fun k => B + k)))) := (hP.arr hh).2
  have hlt : i.toNatClampNeg < N := Nat.not_le.mp fun q => hin (Or.inr q)
  exact W.aald (v := .ref (B + r)) (a := B + k) (rest := st.map (et_em B)) C.1 C.2.1 q1 ((C.kk.2 4 _ rfl).1 N (fun j => va_rf ((f j).map (fun k => B + k)))) rfl (fun q => by cases q) (by show ¬ (i < 0 ∨ (arrV _ _ _).slots.size ≤ _); rw [arrV_size]; exact hin) (by show (arrV _ _ (fun j => va_rf ((f j).map (fun k => B + k)))).slots[_]? = _; rw [arrV_read _ _ hlt, hr]; rfl) rfl rfl hdg (kk p l e R s m args below meth c B D dA ls H locs C hP hF hL hl)
theorem et_ast3 {k N r ci : Nat} {f : Nat → Option Nat} {i : Int32} {fs : List Value} {Tc : u_T} {Nc : Nat} (hdg : decode Y.2.1 pc = .ok (.aastore, 1)) (hh : h k = .inl (3, N, .inr (.inr (.inr (.inr f))))) (hin : vp_in i N) (hr : h r = .inr (ci, fs)) (hc : et_cl[ci]? = some (et_Rn, Tc, Nc))
    (kk : et_M sc Y d mc ms Post (pc + 1) lv st (va_up h k (.inl (3, N, .inr (.inr (.inr (.inr (va_up f i.toNatClampNeg (some r)))))))) n nc ns) : et_M sc Y d mc ms Post pc lv (.ref r :: .int i :: .ref k :: st) h n nc ns := by
  intro p l e R s m args below meth c B D dA ls H locs C hP hF hL hl
  have hk := (hP.arr hh).1
  have q1 : H[B + k]? = some (arrV (dA 3) N (fun j => va_rf ((f j).map (fun k => B + k)))) := (hP.arr hh).2
  obtain ⟨-, cellV, g1, g2, g3, -⟩ := hP.obj hr hc
  have hlt : i.toNatClampNeg < N := Nat.not_le.mp fun q => hin (Or.inr q)
  have h0 : ¬ i < 0 := fun q => hin (Or.inl q)
  have hcls := (C.kk.1 ci _ hc).2
  obtain ⟨kA, comp, k1, k2, k3, -⟩ := (C.kk.2 3 _ rfl).2
  have hcomp : comp = D.1 ci := Option.some.inj (k3.symm.trans hcls.1)
  subst hcomp
  obtain ⟨kC, hkC, -⟩ := hcls.2
  refine W.aast (a := B + k) (v := B + r) (rest := st.map (et_em B)) C.1 C.2.1 q1 (fun q h => by cases h) (fun h => by cases h) k1 k2 rfl hkC ⟨h0, by show _ < (arrV _ _ _).slots.size; rw [arrV_size]; exact hlt⟩ g1 (fun q h => by rw [g3] at h; cases h) (by rw [g2]; exact hkC) (by rw [g2]; exact va_assign hcls) rfl rfl hdg fun H1 e1 e2 e3 => ?_
  refine kk p l e R s m args below meth c B D dA ls H1 _ C (hP.put hk ?_ e2 e3) (fun q hq => (e3 q (et_ne hq)).trans (hF q hq)) (fun q hq => ?_) hl
  · show H1[B + k]? = some (arrV (dA 3) N (fun j => va_rf ((va_up f i.toNatClampNeg (some r) j).map (fun k => B + k))))
    rw [e1]
    show some ((arrV (dA 3) N (fun j => va_rf ((f j).map (fun k => B + k)))).setSlot _ _) = _
    rw [arrV_store]
    congr 2
    funext q
    by_cases hq : q = i.toNatClampNeg
    · subst hq; simp [updV, va_up, va_rf]
    · simp [updV, va_up, hq]
  · rcases List.mem_append.mp hq with h1 | h1
    · exact hL q h1
    · rw [List.mem_singleton.mp h1]; exact Nat.le_add_right B k
theorem et_anew {index : Nat} {x : Int32} {N : Nat} (hdg : decode Y.2.1 pc = .ok (.anewarray index, 3)) (hlk : Cond.classLink Y.1.cls index et_Rn ∈ et_W) (hao : et_Rn ∈ et_AOS) (hx : ¬ x < 0) (hN : x.toNatClampNeg = N) (hb : N * 4 ≤ 536870912) (h1 : nc + 1 ≤ mc) (h2 : ns + N ≤ ms)
    (kk : et_M sc Y d mc ms Post (pc + 3) lv (.ref n :: st) (va_up h n (.inl (3, N, .inr (.inr (.inr (.inr (fun _ => none))))))) (n + 1) (nc + 1) (ns + N)) : et_M sc Y d mc ms Post pc lv (.int x :: st) h n nc ns := by
  intro p l e R s m args below meth c B D dA ls H locs C hP hF hL hl
  subst hN
  refine W.anew (rest := st.map (et_em B)) C.1 C.2.1 C.own (C.hts _ hlk) (va_AO.use (C.wd.2.2.2.2.1 _ hao)) rfl hdg rfl hx hb (by rw [C.rm]; exact h1) (by rw [C.rm]; exact h2) fun cA kA comp e1 e2 e3 e4 => ?_
  obtain ⟨kA', comp', k1, k2, k3, k4⟩ := (C.kk.2 3 _ rfl).2
  have hcA : cA = dA 3 := Option.some.inj (e1.symm.trans k4)
  subst hcA
  have hz : H.size = B + n := hP.1
  rw [hz]
  refine kk p l e R s m args below meth c B D dA ls _ locs C (hP.push (Or.inr ?_) (by simp) (fun q hq => by rw [Array.getElem?_push, if_neg (Nat.ne_of_lt hq)])) (fun q hq => by rw [Array.getElem?_push, if_neg (by omega)]; exact hF q hq) hL hl
  show (H.push _)[B + n]? = some (arrV (dA 3) _ (fun _ => .null))
  rw [← hz, ← arrV_new]
  simp
  rfl
end ETK
end
section
/-! ===== an array of rows is made in one step ===== -/
def et_mo (c : ClassId) (N h0 i : Nat) : Cell := arrV c N (fun j => if j < i then .ref (h0 + 1 + j) else .null)
def et_mi (c : ClassId) (M : Nat) : Cell := arrV c M (fun _ => .int 0)
def et_mst (s : State) (c comp : ClassId) (N M : Nat) : Nat → State
  | 0 => s.pushCell (et_mo c N s.heap.size 0)
  | i + 1 => ((et_mst s c comp N M i).pushCell (et_mi comp M)).setCell s.heap.size (et_mo c N s.heap.size (i + 1))
theorem et_mo_set (c : ClassId) (N h0 i : Nat) : (et_mo c N h0 i).setSlot i (.ref (h0 + 1 + i)) = et_mo c N h0 (i + 1) := by
  unfold et_mo
  rw [arrV_store]
  congr 1
  funext j
  by_cases hj : j = i
  · subst hj
    simp [updV]
  · by_cases hlt : j < i
    · simp [updV, hj, hlt, show j < i + 1 by omega]
    · simp [updV, hj, hlt, show ¬ j < i + 1 by omega]
theorem et_mst_facts (s : State) (c comp : ClassId) (N M : Nat) : ∀ i, (et_mst s c comp N M i).heap.size = s.heap.size + 1 + i ∧ (et_mst s c comp N M i).heap[s.heap.size]? = some (et_mo c N s.heap.size i) ∧ (et_mst s c comp N M i).vm = s.vm ∧ (et_mst s c comp N M i).slotsUsed = s.slotsUsed + N + i * M
  | 0 => by
    refine ⟨by simp [et_mst], by simp [et_mst], rfl, ?_⟩
    have e : (et_mo c N s.heap.size 0).slots.size = N := arrV_size _ _ _
    simp [et_mst, e]
  | i + 1 => by
    obtain ⟨h1, h2, h3, h4⟩ := et_mst_facts s c comp N M i
    have hlt : s.heap.size < (et_mst s c comp N M i).heap.size := by omega
    have h5 : ((et_mst s c comp N M i).pushCell (et_mi comp M)).heap[s.heap.size]? = some (et_mo c N s.heap.size i) := by rw [State.heap_pushCell_of_lt (h := hlt)]; exact h2
    have e : (et_mi comp M).slots.size = M := arrV_size _ _ _
    refine ⟨?_, State.heap_setCell_self h5, by simp [et_mst, h3], ?_⟩
    · simp [et_mst, State.setCell, h1]; omega
    · simp [et_mst, h4, e, Nat.succ_mul]; omega
theorem et_mst_top (s : State) (f : JFrame) (c comp : ClassId) (N M : Nat) : ∀ i, et_mst (s.setTop f) c comp N M i = (et_mst s c comp N M i).setTop f
  | 0 => rfl
  | i + 1 => by simp only [et_mst, et_mst_top s f c comp N M i, State.heap_setTop, State.pushCell_setTop, State.setCell_setTop]
theorem et_mst_old (s : State) (c comp : ClassId) (N M : Nat) {a : Addr} (ha : a < s.heap.size) : ∀ i, (et_mst s c comp N M i).heap[a]? = s.heap[a]?
  | 0 => State.heap_pushCell_of_lt _ _ ha
  | i + 1 => by
    have h1 := (et_mst_facts s c comp N M i).1
    have hlt : a < (et_mst s c comp N M i).heap.size := Nat.lt_of_lt_of_le ha (by omega)
    show (((et_mst s c comp N M i).pushCell (et_mi comp M)).setCell s.heap.size _).heap[a]? = _
    rw [State.heap_setCell_other (Nat.ne_of_gt ha), State.heap_pushCell_of_lt (h := hlt)]
    exact et_mst_old s c comp N M ha i
theorem et_mst_row (s : State) (c comp : ClassId) (N M : Nat) : ∀ i j, j < i → (et_mst s c comp N M i).heap[s.heap.size + 1 + j]? = some (et_mi comp M)
  | 0, _, hj => absurd hj (Nat.not_lt_zero _)
  | i + 1, j, hj => by
    have h1 := (et_mst_facts s c comp N M i).1
    show (((et_mst s c comp N M i).pushCell (et_mi comp M)).setCell s.heap.size _).heap[s.heap.size + 1 + j]? = _
    rw [State.heap_setCell_other (show s.heap.size ≠ s.heap.size + 1 + j by omega)]
    by_cases hlt : j < i
    · have h2 : s.heap.size + 1 + j < (et_mst s c comp N M i).heap.size := by omega
      rw [State.heap_pushCell_of_lt (h := h2)]
      exact et_mst_row s c comp N M i j hlt
    · have e : j = i := by omega
      subst e
      rw [← h1]
      exact State.heap_pushCell_size _ _
section ETMW
variable {E : CtlPost} {e : Env} {d : Bool} {acts : List Action} {s : State}
theorem et_wpNew {c comp : ClassId} {k : Class} {type : FieldType} {len : Nat} {init : Value} (hk : s.vm.classes[c]? = some k) (hkind : k.kind = .array comp type) (h1 : ¬ len > e.platform.arrayLengthLimit) (h2 : ¬ len * componentBytes type > e.platform.maxHeapBytes) (h3 : fits type init = true) (h4 : init.isDefault = true)
    {Q : Addr → Pre} (h5 : s.heap.size < e.platform.maxCells) (h6 : s.slotsUsed + len ≤ e.platform.maxSlots) (hq : Q s.heap.size d acts (s.pushCell (arrV c len (fun _ => init)))) : wp (Jvm.newArray c len init) Q E e d acts s := by
  have h7 : ∀ i v, (Array.replicate len init)[i]? = some v → s.fitsSlot c .none i v = true := by
    intro i v hv
    simp only [Array.getElem?_replicate] at hv
    split at hv
    · cases hv; simp [State.fitsSlot, State.slotType?, hk, hkind, h3]
    · cases hv
  have h8 : allocActs (Array.replicate len init) s.heap.size acts = acts := by
    have h9 : ((Array.replicate len init).all (·.isDefault)) = true := by
      rw [Array.all_replicate]; split <;> simp [h4]
    unfold allocActs; rw [if_pos h9]
  rw [← arrV_new] at hq
  simp only [Jvm.newArray, Jvm.arrayFits, wp_bind', W.ask, W.ite, h1, if_false, wp_pure', W.theClass, hk, hkind, h2, W.alloc, W.stop, Option.some.injEq, exists_eq_left', Array.size_replicate, h8]
  rw [if_neg (by omega)]
  exact ⟨h5, h6, h7, hq⟩
theorem et_wpMake {c comp cc : ClassId} {k kc : Class} {n m : Int32} (hk : s.vm.classes[c]? = some k) (hkind : k.kind = .array comp (.array .int)) (hkc : s.vm.classes[comp]? = some kc) (hkindc : kc.kind = .array cc .int) (hn : ¬ n < 0) (hm : ¬ m < 0)
    (h1 : ¬ n.toNatClampNeg > e.platform.arrayLengthLimit) (h2 : ¬ n.toNatClampNeg * componentBytes (.array .int) > e.platform.maxHeapBytes) (h3 : ¬ m.toNatClampNeg > e.platform.arrayLengthLimit) (h4 : ¬ m.toNatClampNeg * componentBytes .int > e.platform.maxHeapBytes)
    (hc : s.heap.size + 1 + n.toNatClampNeg ≤ e.platform.maxCells) (hs : s.slotsUsed + n.toNatClampNeg + n.toNatClampNeg * m.toNatClampNeg ≤ e.platform.maxSlots)
    {Q : Addr → Pre} (hq : ∀ d' acts', Q s.heap.size d' acts' (et_mst s c comp n.toNatClampNeg m.toNatClampNeg n.toNatClampNeg)) : wp (multianewarray.make c [n, m]) Q E e d acts s := by
  have hfind : ([m].find? (· < 0)) = none := by simp [hm]
  rw [multianewarray.make]
  simp only [wp_bind', W.ite, hn, if_false, wp_pure', W.theClass, hk, hkind, Option.some.injEq, exists_eq_left']
  refine et_wpNew hk hkind h1 h2 rfl rfl (by omega) (by have := Nat.zero_le (n.toNatClampNeg * m.toNatClampNeg); omega) ?_
  simp only [hfind]
  rw [ite_self, wp_bind', Std.Legacy.Range.forIn_eq_forIn_range']
  have hsz : ([:n.toNatClampNeg] : Std.Legacy.Range).size = n.toNatClampNeg := by simp [Std.Legacy.Range.size]
  rw [hsz]
  show wp (forIn (List.range' 0 n.toNatClampNeg 1) PUnit.unit _) _ E e d acts _
  refine wp_forIn_inv (fun rest s' => ∃ i, i ≤ n.toNatClampNeg ∧ rest = List.range' i (n.toNatClampNeg - i) ∧ s' = et_mst s c comp n.toNatClampNeg m.toNatClampNeg i) _ _ ⟨0, Nat.zero_le _, rfl, rfl⟩ ?_ ?_
  · rintro x rest s' d' acts' Q' ⟨i, hi, hl, rfl⟩ hnext
    have hlt : i < n.toNatClampNeg := by
      rcases Nat.lt_or_ge i n.toNatClampNeg with h | h
      · exact h
      · rw [show n.toNatClampNeg - i = 0 from by omega] at hl; simp at hl
    obtain ⟨rfl, hrest⟩ : x = i ∧ rest = List.range' (i + 1) (n.toNatClampNeg - (i + 1)) := by
      rw [show n.toNatClampNeg - i = (n.toNatClampNeg - (i + 1)) + 1 from by omega, List.range'_succ] at hl
      exact ⟨(List.cons.inj hl).1, (List.cons.inj hl).2⟩
    obtain ⟨f1, f2, f3, f4⟩ := et_mst_facts s c comp n.toNatClampNeg m.toNatClampNeg x
    have hmul : x * m.toNatClampNeg + m.toNatClampNeg ≤ n.toNatClampNeg * m.toNatClampNeg := by
      rw [← Nat.succ_mul]; exact Nat.mul_le_mul_right _ hlt
    simp only [wp_bind', multianewarray.make, W.ite, hm, if_false, wp_pure', W.theClass, f3, hkc, hkindc, Option.some.injEq, exists_eq_left']
    refine et_wpNew (by rw [f3]; exact hkc) hkindc h3 h4 rfl rfl (by omega) (by omega) ?_
    have hlt0 : s.heap.size < (et_mst s c comp n.toNatClampNeg m.toNatClampNeg x).heap.size := by omega
    have hcell : ((et_mst s c comp n.toNatClampNeg m.toNatClampNeg x).pushCell (et_mi comp m.toNatClampNeg)).heap[s.heap.size]? = some (et_mo c n.toNatClampNeg s.heap.size x) := by rw [State.heap_pushCell_of_lt (h := hlt0)]; exact f2
    simp only [wp_bind', W.writeLoc]
    refine ⟨_, hcell, (fun h => by cases h), (by rw [show (et_mo c n.toNatClampNeg s.heap.size x).slots.size = n.toNatClampNeg from arrV_size _ _ _]; exact hlt), ?_, ?_⟩
    · show State.fitsSlot _ c .none x _ = true
      simp [State.fitsSlot, State.slotType?, f3, hk, hkind, fits]
    · simp only [wp_pure']
      refine hnext _ _ _ ⟨x + 1, hlt, hrest, ?_⟩
      show _ = (((et_mst s c comp n.toNatClampNeg m.toNatClampNeg x).pushCell (et_mi comp m.toNatClampNeg)).setCell s.heap.size (et_mo c n.toNatClampNeg s.heap.size (x + 1)))
      rw [← et_mo_set, f1]
      rfl
  · rintro s' d' acts' ⟨i, hi, hl, rfl⟩
    have e : i = n.toNatClampNeg := by
      rcases Nat.lt_or_ge i n.toNatClampNeg with h | h
      · rw [show n.toNatClampNeg - i = (n.toNatClampNeg - i - 1) + 1 from by omega, List.range'_succ] at hl; cases hl
      · omega
    subst e
    simp only [wp_pure']
    exact hq _ _
end ETMW
section ETMS
variable {p : Program} {l : Launch} {e : Env} {R : Room} {s : State} {m : MethodId} {args : Array Value} {below : List Frame} {meth : Method} {c : Code} {T : State} {locs : List Loc} {cells slots : Nat}
theorem et_mst_stand (X : Stand p l e R s m args below meth c T locs cells slots) (cA comp : ClassId) (N M : Nat) : ∀ i, Stand p l e R s m args below meth c (et_mst T cA comp N M i) (locs ++ (List.range i).map fun j => ⟨T.heap.size, j⟩) (cells + 1 + i) (slots + N + i * M)
  | 0 => by
    have h := X.pushed (et_mo cA N T.heap.size 0)
    rw [show (et_mo cA N T.heap.size 0).slots.size = N from arrV_size _ _ _] at h
    simpa [et_mst] using h
  | i + 1 => by
    have Xi := et_mst_stand X cA comp N M i
    obtain ⟨f1, f2, -, -⟩ := et_mst_facts T cA comp N M i
    have hlt : T.heap.size < (et_mst T cA comp N M i).heap.size := by omega
    have hcell : ((et_mst T cA comp N M i).pushCell (et_mi comp M)).heap[T.heap.size]? = some (et_mo cA N T.heap.size i) := by rw [State.heap_pushCell_of_lt (h := hlt)]; exact f2
    have h := (Xi.pushed (et_mi comp M)).stored hcell i (.ref (T.heap.size + 1 + i))
    rw [show (et_mi comp M).slots.size = M from arrV_size _ _ _, et_mo_set] at h
    have e2 : (locs ++ (List.range (i + 1)).map fun j => (⟨T.heap.size, j⟩ : Loc)) = (locs ++ (List.range i).map fun j => (⟨T.heap.size, j⟩ : Loc)) ++ [⟨T.heap.size, i⟩] := by simp [List.range_succ, List.append_assoc]
    have e3 : slots + N + (i + 1) * M = slots + N + i * M + M := by rw [Nat.succ_mul]; omega
    rw [e2, e3]
    exact h
set_option maxHeartbeats 1000000 in
theorem et_multiS (X : Stand p l e R s m args below meth c T locs cells slots) (hexec : p.tables.exec = Jvm.exec) {own : String} {index : Nat} (hown : s.vm.findClass own = some m.cls) (hlk : (Cond.classLink own index "[[I").before args s = true) {cA comp cc : ClassId} {kA kC : Class} (hA : s.vm.findClass "[[I" = some cA) (hkA : s.vm.classes[cA]? = some kA) (hkindA : kA.kind = .array comp (.array .int)) (hkC : s.vm.classes[comp]? = some kC) (hkindC : kC.kind = .array cc .int)
    {g : JFrame} (hg : g.method = m) (hdg : decode c.code g.pc = .ok (.multianewarray index 2, 4)) {n k : Int32} {rest : List Value} (hstack : g.stack = .int k :: .int n :: rest) (hn : ¬ n < 0) (hk : ¬ k < 0) (hb1 : n.toNatClampNeg ≤ 1000) (hb2 : k.toNatClampNeg ≤ 1000) (hcells : cells + (1 + n.toNatClampNeg) ≤ R.cells) (hslots : slots + (n.toNatClampNeg + n.toNatClampNeg * k.toNatClampNeg) ≤ R.slots) :
    ∃ vm₁ : Vm, s.WarmedH vm₁ ∧ ∀ target, Steps p.tables e below ((et_mst (T.setVm vm₁) cA comp n.toNatClampNeg k.toNatClampNeg n.toNatClampNeg).setTop { g with pc := g.pc + 4, stack := .ref T.heap.size :: rest }) target → Steps p.tables e below (T.setTop g) target := by
  subst hg
  have hpl : e.platform.magicAccessors = ({} : Platform).magicAccessors := by rw [X.admits.platform]
  obtain ⟨c0, hfc0, hcl⟩ := Cond.classLink_spec hown hlk e.platform hpl
  cases hA.symm.trans hfc0
  obtain ⟨hg₁, hwarm₁, hready₁⟩ := State.classEntry (e := e) X.warmed hcl
  generalize T.vm.noted g.method.cls index (.cls cA) = vm₁ at hg₁ hwarm₁ hready₁
  obtain ⟨kA₁, hkA₁, heA⟩ := hwarm₁.alike.2.2 _ _ hkA
  obtain ⟨kC₁, hkC₁, heC⟩ := hwarm₁.alike.2.2 _ _ hkC
  have hkindA₁ : kA₁.kind = .array comp (.array .int) := by rw [heA]; exact hkindA
  have hkindC₁ : kC₁.kind = .array cc .int := by rw [heC]; exact hkindC
  have X₁ := X.noted hwarm₁
  obtain ⟨hr1, hr2⟩ := X.roomAbove hcells hslots
  refine ⟨vm₁, hwarm₁, fun target hrest => ?_⟩
  have hl1 : ¬ n.toNatClampNeg > e.platform.arrayLengthLimit := by rw [Launch.admits_arrayLengthLimit X.admits]; omega
  have hh1 : ¬ n.toNatClampNeg * componentBytes (.array .int) > e.platform.maxHeapBytes := by
    rw [Launch.admits_maxHeapBytes X.admits]; show ¬ n.toNatClampNeg * 4 > 536870912; omega
  have hl2 : ¬ k.toNatClampNeg > e.platform.arrayLengthLimit := by rw [Launch.admits_arrayLengthLimit X.admits]; omega
  have hh2 : ¬ k.toNatClampNeg * componentBytes .int > e.platform.maxHeapBytes := by
    rw [Launch.admits_maxHeapBytes X.admits]; show ¬ k.toNatClampNeg * 4 > 536870912; omega
  jvm_step X.here [hexec, hdg]
  simp only [multianewarray.sem, wp_bind', W.resolveClassAt_links (State.method?_setTop g X.here.top) hg₁]
  rw [W.popN, if_neg (by decide)]
  refine ⟨g, State.topJava?_setTop' (s := T.setVm vm₁) g X.here.top, [.int n, .int k], rest, rfl, hstack, ?_⟩
  simp only [List.mapM_cons, List.mapM_nil, wp_bind', wp_pure']
  refine et_wpMake (k := kA₁) (kc := kC₁) hkA₁ hkindA₁ hkC₁ hkindC₁ hn hk hl1 hh1 hl2 hh2 (by show T.heap.size + 1 + _ ≤ _; omega) (by show T.slotsUsed + _ + _ ≤ _; omega) (fun d' acts' => ?_)
  have XF := et_mst_stand X₁ cA comp n.toNatClampNeg k.toNatClampNeg n.toNatClampNeg
  have eS : ((T.setTop g).setVm vm₁).setTop { g with stack := rest } = (T.setVm vm₁).setTop { g with stack := rest } := by
    show ((T.setVm vm₁).setTop g).setTop _ = _
    rw [State.setTop_setTop]
  rw [eS, et_mst_top]
  simp only [wp_bind', W.mark, W.pushRef, State.topJava?_setTop' _ XF.here.top, Option.some.injEq, exists_eq_left', State.setTop_setTop, State.heap_setTop]
  intro acts
  simp [jvm, XF.here.top]
  exact hrest
end ETMS
section ETMR
variable {sc : et_X} {Y : et_Y} {d mc ms : Nat} {Post : et_R → (Nat → et_MC) → Nat → Prop} {pc : Nat} {lv : List (Option Value)} {st : List Value} {h : Nat → et_MC} {n nc ns : Nat}
/-- the cells that stand behind it -/
def et_mh (h : Nat → et_MC) (n N M : Nat) : Nat → et_MC := fun j => if j < n then h j else if j = n then .inl (4, N, .inr (.inr (.inr (.inr (fun i => if i < N then some (n + 1 + i) else none))))) else if j < n + 1 + N then .inl (0, M, .inl (fun _ => 0)) else et_void
theorem et_multi {index : Nat} {x z : Int32} {N M : Nat} (hdg : decode Y.2.1 pc = .ok (.multianewarray index 2, 4)) (hlk : Cond.classLink Y.1.cls index "[[I" ∈ et_W) (hx : ¬ x < 0) (hN : x.toNatClampNeg = N) (hz : ¬ z < 0) (hM : z.toNatClampNeg = M) (hb1 : N ≤ 1000) (hb2 : M ≤ 1000) (h1 : nc + (1 + N) ≤ mc) (h2 : ns + (N + N * M) ≤ ms)
    (kk : et_M sc Y d mc ms Post (pc + 4) lv (.ref n :: st) (et_mh h n N M) (n + (1 + N)) (nc + (1 + N)) (ns + (N + N * M))) : et_M sc Y d mc ms Post pc lv (.int z :: .int x :: st) h n nc ns := by
  intro p l e R s m args below meth c B D dA ls H locs C hP hF hL hl T hT X
  subst hN; subst hM
  obtain ⟨-, -, ⟨kA, hkA, hkindA⟩, -⟩ := C.wd.2.2.2.2.2
  have hnA : s.vm.findClass "[[I" = some (dA 4) := (C.kk.2 4 _ rfl).2
  obtain ⟨-, kC, hkC, cc, hkindC⟩ := (C.kk.2 0 _ rfl).1 0 (fun _ => .null)
  obtain ⟨vm₁, hW, step⟩ := et_multiS X C.1 C.own (C.hts _ hlk) hnA hkA hkindA hkC hkindC (g := F0 m pc ls (.int z :: .int x :: st.map (et_em B))) rfl (by rw [C.2.1]; exact hdg) (rest := st.map (et_em B)) rfl hx hz hb1 hb2 (by rw [C.rm]; exact h1) (by rw [C.rm]; exact h2)
  have X1 := et_mst_stand (X.noted hW) (dA 4) (dA 0) x.toNatClampNeg z.toNatClampNeg x.toNatClampNeg
  have f1 := (et_mst_facts (T.setVm vm₁) (dA 4) (dA 0) x.toNatClampNeg z.toNatClampNeg x.toNatClampNeg).1
  have f2 := (et_mst_facts (T.setVm vm₁) (dA 4) (dA 0) x.toNatClampNeg z.toNatClampNeg x.toNatClampNeg).2.1
  have f3 := et_mst_row (T.setVm vm₁) (dA 4) (dA 0) x.toNatClampNeg z.toNatClampNeg x.toNatClampNeg
  have hTs : T.heap.size = B + n := by rw [hT]; exact hP.1
  have hsz : (T.setVm vm₁).heap.size = B + n := hTs
  have hold : ∀ q : Nat, q < B + n → (et_mst (T.setVm vm₁) (dA 4) (dA 0) x.toNatClampNeg z.toNatClampNeg x.toNatClampNeg).heap[q]? = H[q]? := fun q hq => by
    rw [et_mst_old _ _ _ _ _ (by rw [hsz]; exact hq)]
    show T.heap[q]? = _
    rw [hT]
  rw [hsz] at f1 f2 f3
  rw [Nat.add_assoc nc, Nat.add_assoc ns] at X1
  have hP' : et_HP D dA B (et_mh h n x.toNatClampNeg z.toNatClampNeg) (n + (1 + x.toNatClampNeg)) (et_mst (T.setVm vm₁) (dA 4) (dA 0) x.toNatClampNeg z.toNatClampNeg x.toNatClampNeg).heap := by
    refine ⟨by rw [f1]; omega, fun j => ?_⟩
    by_cases c1 : j < n
    · have e : et_mh h n x.toNatClampNeg z.toNatClampNeg j = h j := by simp [et_mh, c1]
      rw [e]
      rcases hP.2 j with h0 | ⟨-, h9⟩
      · exact Or.inl h0
      · exact Or.inr ⟨by omega, h9.kept (hold _ (by omega))⟩
    · by_cases c2 : j = n
      · subst c2
        have e : et_mh h j x.toNatClampNeg z.toNatClampNeg j = .inl (4, x.toNatClampNeg, .inr (.inr (.inr (.inr (fun i => if i < x.toNatClampNeg then some (j + 1 + i) else none))))) := by simp [et_mh]
        rw [e]
        refine Or.inr ⟨by omega, ?_⟩
        show _ = some (arrV (dA 4) x.toNatClampNeg (fun i => va_rf ((if i < x.toNatClampNeg then some (j + 1 + i) else none).map (fun k => B + k))))
        rw [f2]
        unfold et_mo
        congr 2
        funext i
        by_cases c3 : i < x.toNatClampNeg
        · rw [if_pos c3, if_pos c3]
          exact congrArg Value.ref (show (B + j + 1 + i : Nat) = B + (j + 1 + i) by omega)
        · simp [c3, va_rf]
      · by_cases c3 : j < n + 1 + x.toNatClampNeg
        · have e : et_mh h n x.toNatClampNeg z.toNatClampNeg j = .inl (0, z.toNatClampNeg, .inl (fun _ => 0)) := by simp [et_mh, c1, c2, c3]
          rw [e]
          refine Or.inr ⟨by omega, ?_⟩
          show _ = some (arrV (dA 0) z.toNatClampNeg (fun _ => .int 0))
          have h9 := f3 (j - n - 1) (by omega)
          rw [show B + n + 1 + (j - n - 1) = B + j by omega] at h9
          exact h9
        · exact Or.inl (by simp [et_mh, c1, c2, c3])
  obtain ⟨t, a1, b1⟩ := kk p l e R s m args below meth c B D dA ls _ _ C hP' (fun q hq => (hold q (by omega)).trans (hF q hq)) (fun q hq => by
      rcases List.mem_append.mp hq with h9 | h9
      · exact hL q h9
      · obtain ⟨y, -, hy⟩ := List.mem_map.mp h9
        rw [← hy]
        show B ≤ (T.setVm vm₁).heap.size
        rw [hsz]; exact Nat.le_add_right B n) hl _ rfl X1
  rw [hTs] at step
  exact ⟨t, step t a1, b1⟩
end ETMR
end
section
/-! ===== an exception is caught in a caller's own handler; the handler's class may be resolved there for the first time ===== -/
section ETF
variable {E : CtlPost} {e : Env} {d : Bool} {acts : List Action} {s : State} {f : JFrame} {a : Addr} {Q : Handler → Pre}
theorem et_go {x : ExceptionTableEntry} {t : List ExceptionTableEntry} {c : ClassId} {vm' : Vm} {cell : Cell} (hx : covers x f.pc = true) (h0 : x.catchType ≠ 0) (hg : (resolveClass f.method.cls x.catchType).Gives e.toSetting s.vm (.ok c) vm') (hsz : vm'.classes.size ≤ s.vm.classes.size) (hcell : s.heap[a]? = some cell) (hobj : ∀ k, cell.vm ≠ .statics k) (hk : ∃ k, vm'.classes[cell.cls]? = some k) (hc : ∃ k, vm'.classes[c]? = some k) :
    wp (findHandler.go f a (x :: t)) Q E e d acts s ↔ if vm'.assignable cell.cls c = true then Q (.found x.handlerPc) d acts (s.setVm vm') else wp (findHandler.go f a t) Q E e d acts (s.setVm vm') := by
  obtain ⟨ha, ht⟩ := hg.op (op := VmOp.resolveClass f.method.cls x.catchType) rfl
  simp only [covers] at hx
  cases hfit : vm'.assignable cell.cls c <;> simp [findHandler.go, hx, h0, ha, ht, hsz, hcell, hobj, hk, hc, hfit, VmOp.dirties, VmOp.acts]
end ETF
def et_Fn (e : Env) (s : State) (f : JFrame) (a : Addr) (pc : Nat) (vm' : Vm) : Prop :=
  ∀ (Q : Handler → Pre) (E : CtlPost) (d : Bool) (acts : List Action), wp (findHandler f a) Q E e d acts s ↔ Q (.found pc) d acts (s.setVm vm')
theorem et_stepCatch {e : Env} {s : State} {a : Addr} {f : JFrame} {r : List Frame} {pc : Nat} {vm' : Vm} (hfind : et_Fn e s f a pc vm') :
    (stepThrowing e s a (.java f :: r)).Is ((s.setVm vm').setFrames (.java { f with pc := pc, stack := [.ref a] } :: r)) [] := by
  simp only [stepThrowing, searchFrame, vmDo]
  generalize hr : Sem.go _ e false [] s = res
  obtain ⟨as, rfl, ha⟩ := Sem.eq_ok_of hr (a := Handler.found pc) (s' := s.setVm vm') (acts' := []) (by simp [hfind _ _ _ _])
  exact ⟨rfl, ha⟩
section ETF2
variable {tb : Tables} {e : Env} {s target : State} {g : JFrame} {c : Code} {below : List Frame} {a : Addr}
theorem et_caught (h : At s g.method c below) {pc : Nat} {vm' : Vm} (hfind : et_Fn e ((s.setTop g).pushFrame (.throwing a)) g a pc vm') (hrest : Steps tb e below ((s.setVm vm').setTop { g with pc := pc, stack := [.ref a] }) target) :
    Steps tb e below ((s.setTop g).pushFrame (.throwing a)) target := by
  obtain ⟨hgo, hw⟩ := h.throwing a
  refine Steps.head hgo hw ?_
  rw [stepThread_throwing (frames_entered h.top _), (et_stepCatch (s := (s.setTop g).pushFrame (.throwing a)) hfind).1]
  obtain ⟨g₀, hg⟩ := Option.isSome_iff_exists.mp h.top
  obtain ⟨r, hr⟩ := State.topJava?_eq_some.mp hg
  have hr' : (s.setVm vm').frames = .java g₀ :: r := hr
  rw [State.setTop_of_frames _ hr'] at hrest
  rw [State.pushFrame, State.setTop_of_frames _ hr, State.setFrames_setFrames]
  have e1 : ((s.setFrames (.throwing a :: (s.setFrames (.java g :: r)).frames)).setVm vm') = (s.setVm vm').setFrames (.throwing a :: (s.setFrames (.java g :: r)).frames) := rfl
  rw [e1, State.setFrames_setFrames, hr]
  exact hrest
end ETF2
section ETF3
variable {p : Program} {l : Launch} {e : Env} {R : Room} {s : State} {m : MethodId} {args : Array Value} {below : List Frame} {meth : Method} {c : Code} {T : State} {locs : List Loc} {cells slots : Nat}
/-- a class that a handler names, at the tables as they stand: found, and noted -/
theorem et_res (X : Stand p l e R s m args below meth c T locs cells slots) {vm : Vm} (hW : s.WarmedH vm) {own C : String} {index : Nat} (hown : s.vm.findClass own = some m.cls) (hlk : (Cond.classLink own index C).before args s = true) :
    ∃ (c0 : ClassId) (vm' : Vm), s.vm.findClass C = some c0 ∧ (resolveClass m.cls index).Gives e.toSetting vm (.ok c0) vm' ∧ s.WarmedH vm' ∧ vm'.classes.size ≤ vm.classes.size := by
  have hpl : e.platform.magicAccessors = ({} : Platform).magicAccessors := by rw [X.admits.platform]
  obtain ⟨c0, hfc0, hcl⟩ := Cond.classLink_spec hown hlk e.platform hpl
  obtain ⟨hg₁, hwarm₁, -⟩ := State.classEntry (e := e) hW hcl
  exact ⟨c0, _, hfc0, hg₁, hwarm₁, by rw [Vm.size_noted]; exact Nat.le_refl _⟩
theorem et_ents {c : Code} {es : List (Nat × Nat × Nat × Nat)} (h : c.exceptionTable.toList.map (fun h => (h.startPc, h.endPc, h.handlerPc, h.catchType)) = es) : ∃ xs, c.exceptionTable.toList = xs ∧ xs.map (fun h => (h.startPc, h.endPc, h.handlerPc, h.catchType)) = es := ⟨_, rfl, h⟩
theorem et_cls {vm : Vm} {s : State} (hW : s.WarmedH vm) {C : String} {c0 : ClassId} (h : s.vm.findClass C = some c0) : ∃ k, vm.classes[c0]? = some k := by
  have h1 : vm.findClass C = some c0 := by rw [hW.alike.findClass]; exact h
  exact Vm.classAt_of_findClass h1
/-- the first handler takes it -/
theorem et_catch0 (X : Stand p l e R s m args below meth c T locs cells slots) {own C : String} (hown : s.vm.findClass own = some m.cls) {s0 e0 h0 t0 : Nat} {r : List (Nat × Nat × Nat × Nat)} (htab : c.exceptionTable.toList.map (fun h => (h.startPc, h.endPc, h.handlerPc, h.catchType)) = (s0, e0, h0, t0) :: r)
    (hlk : (Cond.classLink own t0 C).before args s = true) (hcast : (Cond.castable C C).before args s = true) (ht0 : t0 ≠ 0) {g : JFrame} (hg : g.method = m) (hcov : s0 ≤ g.pc ∧ g.pc < e0) {a : Addr} {ce : Cell} (hce : T.heap[a]? = some ce) (hst : ce.vm.isStatics = false) (hcls : T.vm.findClass C = some ce.cls) :
    ∃ vm' : Vm, s.WarmedH vm' ∧ ∀ target, Steps p.tables e below ((T.setVm vm').setTop { g with pc := h0, stack := [.ref a] }) target → Steps p.tables e below ((T.setTop g).pushFrame (.throwing a)) target := by
  obtain ⟨c0, vm', hc0, hgv, hW', hsz⟩ := et_res X X.warmed hown hlk
  obtain ⟨c1, c2, k1, k2, k3⟩ := Cond.castable_spec hcast
  cases Option.some.inj (k1.symm.trans hc0)
  cases Option.some.inj (k2.symm.trans hc0)
  have hce0 : ce.cls = c0 := Option.some.inj (hcls.symm.trans ((X.warmed.alike.findClass C none).trans hc0))
  obtain ⟨xs, hxs, hmap⟩ := et_ents htab
  cases xs with
  | nil => cases hmap
  | cons x t =>
    have h1 := (List.cons.inj hmap).1
    simp only [Prod.mk.injEq] at h1
    obtain ⟨i1, i2, i3, i4⟩ := h1
    refine ⟨vm', hW', fun target hrest => et_caught (c := c) (by rw [hg]; exact X.here) (pc := h0) (vm' := vm') ?_ hrest⟩
    intro Q E d acts
    rw [W.findHandler_eq (s := (T.setTop g).pushFrame (.throwing a)) (meth := meth) (code := c) (by rw [hg, throwing_vm]; exact X.method') X.code, hxs]
    rw [et_go (x := x) (t := t) (c := c0) (vm' := vm') (cell := ce) (by simp only [covers, i1, i2]; simp [hcov.1, hcov.2]) (by rw [i4]; exact ht0) (by rw [hg, i4, throwing_vm]; exact hgv) (by rw [throwing_vm]; exact hsz) (by rw [throwing_heap]; exact hce) (VmData.ne_statics_of hst) (by rw [hce0]; exact et_cls hW' hc0) (et_cls hW' hc0)]
    rw [if_pos (by rw [hce0, hW'.alike.assignable]; exact k3), i3]
/-- the second handler takes it, the first being of another class -/
theorem et_catch1 (X : Stand p l e R s m args below meth c T locs cells slots) {own C C' : String} (hown : s.vm.findClass own = some m.cls) {s0 e0 h0 t0 s1 e1 h1 t1 : Nat} {r : List (Nat × Nat × Nat × Nat)} (htab : c.exceptionTable.toList.map (fun h => (h.startPc, h.endPc, h.handlerPc, h.catchType)) = (s0, e0, h0, t0) :: (s1, e1, h1, t1) :: r)
    (hlk0 : (Cond.classLink own t0 C').before args s = true) (hlk : (Cond.classLink own t1 C).before args s = true) (hcast : (Cond.castable C C).before args s = true) (hno : va_Nc C C' s) (ht0 : t0 ≠ 0) (ht1 : t1 ≠ 0) {g : JFrame} (hg : g.method = m) (hcov0 : s0 ≤ g.pc ∧ g.pc < e0) (hcov : s1 ≤ g.pc ∧ g.pc < e1) {a : Addr} {ce : Cell} (hce : T.heap[a]? = some ce) (hst : ce.vm.isStatics = false) (hcls : T.vm.findClass C = some ce.cls) :
    ∃ vm' : Vm, s.WarmedH vm' ∧ ∀ target, Steps p.tables e below ((T.setVm vm').setTop { g with pc := h1, stack := [.ref a] }) target → Steps p.tables e below ((T.setTop g).pushFrame (.throwing a)) target := by
  obtain ⟨cA, vmA, hcA, hgA, hWA, hszA⟩ := et_res X X.warmed hown hlk0
  obtain ⟨c0, vm', hc0, hgv, hW', hsz⟩ := et_res X hWA hown hlk
  obtain ⟨c1, c2, k1, k2, k3⟩ := Cond.castable_spec hcast
  cases Option.some.inj (k1.symm.trans hc0)
  cases Option.some.inj (k2.symm.trans hc0)
  obtain ⟨n1, n2, j1, j2, j3⟩ := hno
  cases Option.some.inj (j1.symm.trans hc0)
  cases Option.some.inj (j2.symm.trans hcA)
  have hce0 : ce.cls = c0 := Option.some.inj (hcls.symm.trans ((X.warmed.alike.findClass C none).trans hc0))
  obtain ⟨xs, hxs, hmap⟩ := et_ents htab
  match xs, hmap with
  | x :: y :: t, hmap =>
    have h2 := (List.cons.inj hmap).1
    have h3 := (List.cons.inj (List.cons.inj hmap).2).1
    simp only [Prod.mk.injEq] at h2 h3
    obtain ⟨i1, i2, i3, i4⟩ := h2
    obtain ⟨y1, y2, y3, y4⟩ := h3
    refine ⟨vm', hW', fun target hrest => et_caught (c := c) (by rw [hg]; exact X.here) (pc := h1) (vm' := vm') ?_ hrest⟩
    intro Q E d acts
    rw [W.findHandler_eq (s := (T.setTop g).pushFrame (.throwing a)) (meth := meth) (code := c) (by rw [hg, throwing_vm]; exact X.method') X.code, hxs]
    rw [et_go (x := x) (t := y :: t) (c := cA) (vm' := vmA) (cell := ce) (by simp only [covers, i1, i2]; simp [hcov0.1, hcov0.2]) (by rw [i4]; exact ht0) (by rw [hg, i4, throwing_vm]; exact hgA) (by rw [throwing_vm]; exact hszA) (by rw [throwing_heap]; exact hce) (VmData.ne_statics_of hst) (by rw [hce0]; exact et_cls hWA hc0) (et_cls hWA hcA)]
    rw [if_neg (by rw [hce0, hWA.alike.assignable, j3]; decide)]
    rw [et_go (s := ((T.setTop g).pushFrame (.throwing a)).setVm vmA) (x := y) (t := t) (c := c0) (vm' := vm') (cell := ce) (by simp only [covers, y1, y2]; simp [hcov.1, hcov.2]) (by rw [y4]; exact ht1) (by rw [hg, y4]; exact hgv) hsz (by show ((T.setTop g).pushFrame (.throwing a)).heap[a]? = _; rw [throwing_heap]; exact hce) (VmData.ne_statics_of hst) (by rw [hce0]; exact et_cls hW' hc0) (et_cls hW' hc0)]
    rw [if_pos (by rw [hce0, hW'.alike.assignable]; exact k3), y3]
    rfl
end ETF3
section ETF4
variable {sc : et_X} {Y : et_Y} {d mc ms : Nat} {Post : et_R → (Nat → et_MC) → Nat → Prop} {pc : Nat} {lv : List (Option Value)} {st : List Value} {h : Nat → et_MC} {n nc ns : Nat}
/-- the handler that takes an exception of the kind x thrown at pc -/
def et_hnd (Y : et_Y) (x pc hpc : Nat) : Prop :=
  (x = 0 ∧ ∃ s0 e0 t0 r, Y.2.2.2.2 = (s0, e0, hpc, t0) :: r ∧ Cond.classLink Y.1.cls t0 (et_exn 0) ∈ et_W ∧ Cond.castable (et_exn 0) (et_exn 0) ∈ et_NST ∧ t0 ≠ 0 ∧ s0 ≤ pc ∧ pc < e0) ∨
  (x = 1 ∧ ∃ s0 e0 h0 t0 s1 e1 t1 r, Y.2.2.2.2 = (s0, e0, h0, t0) :: (s1, e1, hpc, t1) :: r ∧ Cond.classLink Y.1.cls t0 (et_exn 0) ∈ et_W ∧ Cond.classLink Y.1.cls t1 (et_exn 1) ∈ et_W ∧ Cond.castable (et_exn 1) (et_exn 1) ∈ et_NST ∧ t0 ≠ 0 ∧ t1 ≠ 0 ∧ s0 ≤ pc ∧ pc < e0 ∧ s1 ≤ pc ∧ pc < e1)
theorem et_contC {Pc : et_R → (Nat → et_MC) → Nat → Prop} {mcc msc : Nat} {p : Program} {l : Launch} {e : Env} {R : Room} {s : State} {m : MethodId} {args : Array Value} {below : List Frame} {meth : Method} {c : Code} {B : Nat} {D : va_G} {dA : Nat → ClassId} {ls : Array Slot} {H : Heap} {locs : List Loc} {stk : List Value} {aa : Array Value}
    (C : et_C sc Y d mc ms B D dA p l R s m args meth c) (hF : ∀ q : Nat, q < B → H[q]? = s.heap[q]?) (hL : ∀ q ∈ locs, B ≤ q.base) (hl : lv_has ls Y.2.2.1 (et_ll B 0 lv))
    (hr : et_Run p l e R s m args below meth c H locs nc ns mcc msc (F0 m pc ls stk) (st.map (et_em B)) (et_Qc B D dA Pc aa) (fun q => B ≤ q))
    (kR : ∀ (v : Option Value) (h' : Nat → et_MC) (n' : Nat), Pc (.inl v) h' n' → et_M sc Y d mc ms Post (pc + 3) lv (v.toList ++ st) h' n' (nc + mcc) (ns + msc))
    (kT : ∀ (x a : Nat) (h' : Nat → et_MC) (n' : Nat), Pc (.inr x) h' n' → ∃ hpc, et_hnd Y x pc hpc ∧ et_M sc Y d mc ms Post hpc lv [.ref a] h' n' (nc + mcc) (ns + msc)) :
    W p l e R s m args below meth c H locs nc ns (et_Q below (et_Qc B D dA Post) args s mc ms (fun q => B ≤ q)) (F0 m pc ls stk) := by
  intro T hT X
  obtain ⟨o, st₀, t, T', L, h0, X', hL', e1, e2, ⟨⟨r, h', n', hp, hP', hO⟩, hF'⟩, hd⟩ := hr T hT X
  have hFT : ∀ q : Nat, q < B → T'.heap[q]? = s.heap[q]? := fun q hq => by rw [e1, hF' q hq, h0]; exact hF q hq
  have hLL : ∀ q ∈ locs ++ L, B ≤ q.base := fun q hq => by
    rcases List.mem_append.mp hq with h | h
    · exact hL q h
    · exact hL' q h
  cases r with
  | inl v =>
    have hO' : o = .returned (v.map (et_em B)) := hO
    subst hO'
    rcases hd with ⟨v', hv', hst⟩ | ⟨x, hx, -⟩
    · cases hv'
      obtain ⟨t2, a1, b1⟩ := kR v h' n' hp p l e R s m args below meth c B D dA ls T'.heap (locs ++ L) C (by rw [e1]; exact hP') hFT hLL hl T' rfl X'
      refine ⟨t2, hst t2 ?_, b1⟩
      have e9 : (v.toList ++ st).map (et_em B) = (v.map (et_em B)).toList ++ st.map (et_em B) := by cases v <;> rfl
      rw [e9] at a1
      exact a1
    · cases hx
  | inr x =>
    obtain ⟨a, ce, hO1, hO2, hO3, hO4⟩ := hO
    subst hO1
    obtain ⟨hpc, hh, hm⟩ := kT x a h' n' hp
    rcases hd with ⟨v', hv', -⟩ | ⟨x', hx, hst⟩
    · cases hv'
    · cases hx
      have key : ∃ vm' : Vm, s.WarmedH vm' ∧ ∀ target, Steps p.tables e below ((T'.setVm vm').setTop (F0 m hpc ls [.ref (B + a)])) target → Steps p.tables e below ((T'.setTop { F0 m pc ls stk with stack := st.map (et_em B) }).pushFrame (.throwing (B + a))) target := by
        rcases hh with ⟨rfl, s0, e0, t0, r, q1, q2, q3, q4, q5, q6⟩ | ⟨rfl, s0, e0, h0, t0, s1, e1', t1, r, q1, q2, q3, q4, q5, q6, q7, q8, q9, q10⟩
        · exact et_catch0 X' (g := { F0 m pc ls stk with stack := st.map (et_em B) }) C.own (C.tab.trans q1) (C.hts _ q2) (et_nst C.wd q3) q4 rfl ⟨q5, q6⟩ (by rw [e1]; exact hO2) hO4 (by rw [e2]; exact hO3)
        · exact et_catch1 X' (g := { F0 m pc ls stk with stack := st.map (et_em B) }) C.own (C.tab.trans q1) (C.hts _ q2) (C.hts _ q3) (et_nst C.wd q4) C.wd.2.2.2.2.2.2.2.2 q5 q6 rfl ⟨q7, q8⟩ ⟨q9, q10⟩ (by rw [e1]; exact hO2) hO4 (by rw [e2]; exact hO3)
      obtain ⟨vm', hW', step⟩ := key
      obtain ⟨t2, a1, b1⟩ := hm p l e R s m args below meth c B D dA ls T'.heap (locs ++ L) C (by rw [e1]; exact hP') hFT hLL hl (T'.setVm vm') rfl (X'.noted hW')
      exact ⟨t2, hst t2 (step t2 a1), b1⟩
theorem et_invVc {Yc : et_Y} (mf : et_MV Yc) {dc mcc msc : Nat} {Pc : et_R → (Nat → et_MC) → Nat → Prop} {index k ci : Nat} {As stk fs : List Value} {T : u_T} {N : Nat} (hst : stk = As.reverse ++ .ref k :: st) (hdg : decode Y.2.1 pc = .ok (.invokevirtual index, 3)) (hlk : et_lk Y.1.cls index Yc.1) (hlen : (parseMethodDescriptor Yc.1.desc).map (fun d => d.parameters.length) = some As.length) (hh : h k = .inr (ci, fs)) (hc : et_cl[ci]? = some (Yc.1.cls, T, N)) (hsum : (st.map fun v => v.category).sum ≤ 8)
    (hcn : et_Cn sc Yc dc (.ref k :: As) h n mcc msc Pc) (hd : dc + 1 ≤ d) (h1 : nc + mcc ≤ mc) (h2 : ns + msc ≤ ms)
    (kR : ∀ (v : Option Value) (h' : Nat → et_MC) (n' : Nat), Pc (.inl v) h' n' → et_M sc Y d mc ms Post (pc + 3) lv (v.toList ++ st) h' n' (nc + mcc) (ns + msc))
    (kT : ∀ (x a : Nat) (h' : Nat → et_MC) (n' : Nat), Pc (.inr x) h' n' → ∃ hpc, et_hnd Y x pc hpc ∧ et_M sc Y d mc ms Post hpc lv [.ref a] h' n' (nc + mcc) (ns + msc)) : et_M sc Y d mc ms Post pc lv stk h n nc ns := by
  intro p l e R s m args below meth c B D dA ls H locs C hP hF hL hl
  subst hst
  obtain ⟨m1, m2, m3, m4, m5, m6, m7⟩ := mf
  obtain ⟨-, cell, q1, q2, q3, -⟩ := hP.obj hh hc
  obtain ⟨host, hlink⟩ := hlk.use C
  have hrun := et_runV (p := p) (e := e) (m := m) (below := below) (meth := meth) (c := c) (locs := locs) (cells := nc) (slots := ns) (host := host) (C := Yc.1.cls) (index := index) (b := B + k) (As := As.map (et_em B)) (rest := st.map (et_em B)) (g := F0 m pc ls ((As.reverse ++ .ref k :: st).map (et_em B))) C.1 C.2.1 C.own (et_cb C hP hF hcn hd m7 m1 m2) hlink (C.hts _ m3) (C.hts _ m4) ⟨m5, m6⟩
    ⟨cell, q1, by rw [q3]; rfl, by rw [q2]; exact (C.kk.1 ci _ hc).2.1⟩ rfl (by rw [List.length_map]; exact hlen) (hl.1.trans C.2.2.1.symm) (by show (As.reverse ++ .ref k :: st).map (et_em B) = _; rw [List.map_append, List.map_reverse]; rfl) (by rw [et_sumc]; show 2 * 0 + _ ≤ 8; omega) hdg (by rw [C.rm]; exact ⟨h1, h2⟩)
  exact et_contC C hF hL hl hrun kR kT
end ETF4
end
section
/-! ===== methods, and what is known of them ===== -/
abbrev Y_E_init : et_Y := (⟨"EqualTerms", "<init>", "()V"⟩, prog_1_method_1_code, 1, none, [])
set_option maxRecDepth 100000 in
theorem mI_E_init : et_MI Y_E_init := ⟨et_in 73 rfl rfl, et_in 52 (by decide +kernel) (by decide +kernel), et_in 72 (by decide +kernel) (by decide +kernel), by decide, by decide, by decide, rfl, rfl, rfl⟩
abbrev Y_O_init : et_Y := (⟨"java/lang/Object", "<init>", "()V"⟩, object_method_1_code, 1, none, [])
abbrev Y_T_init : et_Y := (⟨"EqualTerms$Text", "<init>", "()V"⟩, prog_7_method_1_code, 1, none, [])
set_option maxRecDepth 100000 in
theorem mI_T_init : et_MI Y_T_init := ⟨et_in 81 rfl rfl, et_in 53 (by decide +kernel) (by decide +kernel), et_in 80 (by decide +kernel) (by decide +kernel), by decide, by decide, by decide, rfl, rfl, rfl⟩
abbrev Y_G_init : et_Y := (⟨"EqualTerms$Graph", "<init>", "()V"⟩, prog_3_method_1_code, 1, none, [])
set_option maxRecDepth 100000 in
theorem mI_G_init : et_MI Y_G_init := ⟨et_in 108 rfl rfl, et_in 54 (by decide +kernel) (by decide +kernel), et_in 107 (by decide +kernel) (by decide +kernel), by decide, by decide, by decide, rfl, rfl, rfl⟩
abbrev Y_K_init : et_Y := (⟨"EqualTerms$Walk", "<init>", "(LEqualTerms$Graph;)V"⟩, prog_8_method_1_code, 2, none, [])
set_option maxRecDepth 100000 in
theorem mI_K_init : et_MI Y_K_init := ⟨et_in 153 rfl rfl, et_in 55 (by decide +kernel) (by decide +kernel), et_in 152 (by decide +kernel) (by decide +kernel), by decide, by decide, by decide, rfl, rfl, rfl⟩
abbrev Y_R_init : et_Y := (⟨"EqualTerms$Round", "<init>", "(LEqualTerms$Graph;LEqualTerms$Walk;)V"⟩, prog_4_method_1_code, 3, none, [])
set_option maxRecDepth 100000 in
theorem mI_R_init : et_MI Y_R_init := ⟨et_in 170 rfl rfl, et_in 56 (by decide +kernel) (by decide +kernel), et_in 169 (by decide +kernel) (by decide +kernel), by decide, by decide, by decide, rfl, rfl, rfl⟩
abbrev Y_C_init : et_Y := (⟨"EqualTerms$Cheapest", "<init>", "(LEqualTerms$Graph;)V"⟩, prog_2_method_1_code, 2, none, [])
set_option maxRecDepth 100000 in
theorem mI_C_init : et_MI Y_C_init := ⟨et_in 196 rfl rfl, et_in 57 (by decide +kernel) (by decide +kernel), et_in 195 (by decide +kernel) (by decide +kernel), by decide, by decide, by decide, rfl, rfl, rfl⟩
abbrev Y_A_fill_II : et_Y := (⟨"java/util/Arrays", "fill", "([II)V"⟩, prog_20_method_103_code, 4, none, [])
set_option maxRecDepth 100000 in
theorem mS_A_fill_II : et_MS Y_A_fill_II := ⟨et_in 202 rfl rfl, et_in 58 (by decide +kernel) (by decide +kernel), et_in 201 (by decide +kernel) (by decide +kernel), by decide, by decide, by decide⟩
abbrev Y_E_type : et_Y := (⟨"EqualTerms", "type", "(JI)I"⟩, prog_1_method_2_code, 4, (some .int), [])
set_option maxRecDepth 100000 in
theorem mV_E_type : et_MV Y_E_type := ⟨et_in 254 rfl rfl, et_in 52 (by decide +kernel) (by decide +kernel), et_in 252 (by decide +kernel) (by decide +kernel), et_in 253 (by decide +kernel) (by decide +kernel), by decide, by decide, by decide⟩
abbrev Y_T_append : et_Y := (⟨"EqualTerms$Text", "append", "(JI)I"⟩, prog_7_method_2_code, 6, (some .int), [])
set_option maxRecDepth 100000 in
theorem mV_T_append : et_MV Y_T_append := ⟨et_in 258 rfl rfl, et_in 53 (by decide +kernel) (by decide +kernel), et_in 256 (by decide +kernel) (by decide +kernel), et_in 257 (by decide +kernel) (by decide +kernel), by decide, by decide, by decide⟩
abbrev Y_T_byteAt : et_Y := (⟨"EqualTerms$Text", "byteAt", "(JI)I"⟩, prog_7_method_3_code, 3, (some .int), [])
set_option maxRecDepth 100000 in
theorem mS_T_byteAt : et_MS Y_T_byteAt := ⟨et_in 261 rfl rfl, et_in 53 (by decide +kernel) (by decide +kernel), et_in 260 (by decide +kernel) (by decide +kernel), by decide, by decide, by decide⟩
abbrev Y_E_wipe : et_Y := (⟨"EqualTerms", "wipe", "()I"⟩, prog_1_method_3_code, 2, (some .int), [])
set_option maxRecDepth 100000 in
theorem mV_E_wipe : et_MV Y_E_wipe := ⟨et_in 266 rfl rfl, et_in 52 (by decide +kernel) (by decide +kernel), et_in 264 (by decide +kernel) (by decide +kernel), et_in 265 (by decide +kernel) (by decide +kernel), by decide, by decide, by decide⟩
abbrev Y_T_clear : et_Y := (⟨"EqualTerms$Text", "clear", "()V"⟩, prog_7_method_4_code, 1, none, [])
set_option maxRecDepth 100000 in
theorem mV_T_clear : et_MV Y_T_clear := ⟨et_in 270 rfl rfl, et_in 53 (by decide +kernel) (by decide +kernel), et_in 268 (by decide +kernel) (by decide +kernel), et_in 269 (by decide +kernel) (by decide +kernel), by decide, by decide, by decide⟩
abbrev Y_E_character : et_Y := (⟨"EqualTerms", "character", "(I)I"⟩, prog_1_method_4_code, 2, (some .int), [])
set_option maxRecDepth 100000 in
theorem mV_E_character : et_MV Y_E_character := ⟨et_in 274 rfl rfl, et_in 52 (by decide +kernel) (by decide +kernel), et_in 272 (by decide +kernel) (by decide +kernel), et_in 273 (by decide +kernel) (by decide +kernel), by decide, by decide, by decide⟩
abbrev Y_E_place : et_Y := (⟨"EqualTerms", "place", "()I"⟩, prog_1_method_5_code, 1, (some .int), [])
set_option maxRecDepth 100000 in
theorem mV_E_place : et_MV Y_E_place := ⟨et_in 278 rfl rfl, et_in 52 (by decide +kernel) (by decide +kernel), et_in 276 (by decide +kernel) (by decide +kernel), et_in 277 (by decide +kernel) (by decide +kernel), by decide, by decide, by decide⟩
abbrev Y_E_nodes : et_Y := (⟨"EqualTerms", "nodes", "()I"⟩, prog_1_method_12_code, 1, (some .int), [])
set_option maxRecDepth 100000 in
theorem mV_E_nodes : et_MV Y_E_nodes := ⟨et_in 282 rfl rfl, et_in 52 (by decide +kernel) (by decide +kernel), et_in 280 (by decide +kernel) (by decide +kernel), et_in 281 (by decide +kernel) (by decide +kernel), by decide, by decide, by decide⟩
abbrev Y_E_classes : et_Y := (⟨"EqualTerms", "classes", "()I"⟩, prog_1_method_13_code, 1, (some .int), [])
set_option maxRecDepth 100000 in
theorem mV_E_classes : et_MV Y_E_classes := ⟨et_in 286 rfl rfl, et_in 52 (by decide +kernel) (by decide +kernel), et_in 284 (by decide +kernel) (by decide +kernel), et_in 285 (by decide +kernel) (by decide +kernel), by decide, by decide, by decide⟩
abbrev Y_L_rule : et_Y := (⟨"EqualTermsLaw", "rule", "(LEqualTerms;[J)I"⟩, method_3_code, 3, (some .int), [(0, 8, 11, 13), (0, 8, 14, 15)])
set_option maxRecDepth 100000 in
theorem mS_L_rule : et_MS Y_L_rule := ⟨et_in 289 rfl rfl, et_in 51 (by decide +kernel) (by decide +kernel), et_in 288 (by decide +kernel) (by decide +kernel), by decide, by decide, by decide⟩
abbrev Y_E_rule : et_Y := (⟨"EqualTerms", "rule", "()I"⟩, prog_1_method_6_code, 1, (some .int), [])
set_option maxRecDepth 100000 in
theorem mV_E_rule : et_MV Y_E_rule := ⟨et_in 295 rfl rfl, et_in 52 (by decide +kernel) (by decide +kernel), et_in 293 (by decide +kernel) (by decide +kernel), et_in 294 (by decide +kernel) (by decide +kernel), by decide, by decide, by decide⟩
abbrev Y_T_isRule : et_Y := (⟨"EqualTerms$Text", "isRule", "()Z"⟩, prog_7_method_8_code, 1, (some .boolean), [])
set_option maxRecDepth 100000 in
theorem mV_T_isRule : et_MV Y_T_isRule := ⟨et_in 299 rfl rfl, et_in 53 (by decide +kernel) (by decide +kernel), et_in 297 (by decide +kernel) (by decide +kernel), et_in 298 (by decide +kernel) (by decide +kernel), by decide, by decide, by decide⟩
abbrev Y_T_firstWrong : et_Y := (⟨"EqualTerms$Text", "firstWrong", "(ZZ)I"⟩, prog_7_method_10_code, 6, (some .int), [])
set_option maxRecDepth 100000 in
theorem mV_T_firstWrong : et_MV Y_T_firstWrong := ⟨et_in 303 rfl rfl, et_in 53 (by decide +kernel) (by decide +kernel), et_in 302 (by decide +kernel) (by decide +kernel), et_in 0 (by decide +kernel) (by decide +kernel), by decide, by decide, by decide⟩
abbrev Y_T_partsInRule : et_Y := (⟨"EqualTerms$Text", "partsInRule", "(I)I"⟩, prog_7_method_11_code, 3, (some .int), [])
set_option maxRecDepth 100000 in
theorem mV_T_partsInRule : et_MV Y_T_partsInRule := ⟨et_in 307 rfl rfl, et_in 53 (by decide +kernel) (by decide +kernel), et_in 306 (by decide +kernel) (by decide +kernel), et_in 1 (by decide +kernel) (by decide +kernel), by decide, by decide, by decide⟩
abbrev Y_S_isVariable : et_Y := (⟨"EqualTerms$Signs", "isVariable", "(I)Z"⟩, prog_6_method_3_code, 1, (some .boolean), [])
set_option maxRecDepth 100000 in
theorem mS_S_isVariable : et_MS Y_S_isVariable := ⟨et_in 310 rfl rfl, et_in 60 (by decide +kernel) (by decide +kernel), et_in 309 (by decide +kernel) (by decide +kernel), by decide, by decide, by decide⟩
abbrev Y_T_inFirstSide : et_Y := (⟨"EqualTerms$Text", "inFirstSide", "(I)Z"⟩, prog_7_method_12_code, 3, (some .boolean), [])
set_option maxRecDepth 100000 in
theorem mV_T_inFirstSide : et_MV Y_T_inFirstSide := ⟨et_in 314 rfl rfl, et_in 53 (by decide +kernel) (by decide +kernel), et_in 313 (by decide +kernel) (by decide +kernel), et_in 2 (by decide +kernel) (by decide +kernel), by decide, by decide, by decide⟩
abbrev Y_S_partsInPattern : et_Y := (⟨"EqualTerms$Signs", "partsInPattern", "(I)I"⟩, prog_6_method_4_code, 1, (some .int), [])
set_option maxRecDepth 100000 in
theorem mS_S_partsInPattern : et_MS Y_S_partsInPattern := ⟨et_in 317 rfl rfl, et_in 60 (by decide +kernel) (by decide +kernel), et_in 316 (by decide +kernel) (by decide +kernel), by decide, by decide, by decide⟩
abbrev Y_S_parts : et_Y := (⟨"EqualTerms$Signs", "parts", "(I)I"⟩, prog_6_method_2_code, 1, (some .int), [])
set_option maxRecDepth 100000 in
theorem mS_S_parts : et_MS Y_S_parts := ⟨et_in 321 rfl rfl, et_in 60 (by decide +kernel) (by decide +kernel), et_in 320 (by decide +kernel) (by decide +kernel), by decide, by decide, by decide⟩
abbrev Y_T_noteWrong : et_Y := (⟨"EqualTerms$Text", "noteWrong", "(I)Z"⟩, prog_7_method_9_code, 2, (some .boolean), [])
set_option maxRecDepth 100000 in
theorem mV_T_noteWrong : et_MV Y_T_noteWrong := ⟨et_in 326 rfl rfl, et_in 53 (by decide +kernel) (by decide +kernel), et_in 325 (by decide +kernel) (by decide +kernel), et_in 3 (by decide +kernel) (by decide +kernel), by decide, by decide, by decide⟩
abbrev Y_U_init : et_Y := (⟨"EqualTerms$Rule", "<init>", "(LEqualTerms$Text;)V"⟩, prog_5_method_1_code, 6, none, [])
set_option maxRecDepth 100000 in
theorem mI_U_init : et_MI Y_U_init := ⟨et_in 413 rfl rfl, et_in 66 (by decide +kernel) (by decide +kernel), et_in 412 (by decide +kernel) (by decide +kernel), by decide, by decide, by decide, rfl, rfl, rfl⟩
abbrev Y_A_copyOf : et_Y := (⟨"java/util/Arrays", "copyOf", "([II)[I"⟩, prog_20_method_123_code, 3, (some (.array .int)), [])
set_option maxRecDepth 100000 in
theorem mS_A_copyOf : et_MS Y_A_copyOf := ⟨et_in 417 rfl rfl, et_in 58 (by decide +kernel) (by decide +kernel), et_in 416 (by decide +kernel) (by decide +kernel), by decide, by decide, by decide⟩
abbrev Y_H_min : et_Y := (⟨"java/lang/Math", "min", "(II)I"⟩, prog_15_method_69_code, 2, (some .int), [])
set_option maxRecDepth 100000 in
theorem mS_H_min : et_MS Y_H_min := ⟨et_in 427 rfl rfl, et_in 67 (by decide +kernel) (by decide +kernel), et_in 426 (by decide +kernel) (by decide +kernel), by decide, by decide, by decide⟩
abbrev Y_U_endOfPattern : et_Y := (⟨"EqualTerms$Rule", "endOfPattern", "([II)I"⟩, prog_5_method_2_code, 4, (some .int), [])
set_option maxRecDepth 100000 in
theorem mS_U_endOfPattern : et_MS Y_U_endOfPattern := ⟨et_in 435 rfl rfl, et_in 66 (by decide +kernel) (by decide +kernel), et_in 434 (by decide +kernel) (by decide +kernel), by decide, by decide, by decide⟩
abbrev Y_L_add : et_Y := (⟨"EqualTermsLaw", "add", "(LEqualTerms;[J)I"⟩, method_4_code, 3, (some .int), [(0, 8, 11, 13), (0, 8, 14, 15)])
set_option maxRecDepth 100000 in
theorem mS_L_add : et_MS Y_L_add := ⟨et_in 457 rfl rfl, et_in 51 (by decide +kernel) (by decide +kernel), et_in 456 (by decide +kernel) (by decide +kernel), by decide, by decide, by decide⟩
abbrev Y_E_add : et_Y := (⟨"EqualTerms", "add", "()I"⟩, prog_1_method_7_code, 3, (some .int), [])
set_option maxRecDepth 100000 in
theorem mV_E_add : et_MV Y_E_add := ⟨et_in 461 rfl rfl, et_in 52 (by decide +kernel) (by decide +kernel), et_in 459 (by decide +kernel) (by decide +kernel), et_in 460 (by decide +kernel) (by decide +kernel), by decide, by decide, by decide⟩
abbrev Y_E_demandTerm : et_Y := (⟨"EqualTerms", "demandTerm", "()V"⟩, prog_1_method_17_code, 1, none, [])
set_option maxRecDepth 100000 in
theorem mV_E_demandTerm : et_MV Y_E_demandTerm := ⟨et_in 465 rfl rfl, et_in 52 (by decide +kernel) (by decide +kernel), et_in 464 (by decide +kernel) (by decide +kernel), et_in 5 (by decide +kernel) (by decide +kernel), by decide, by decide, by decide⟩
abbrev Y_T_isTerm : et_Y := (⟨"EqualTerms$Text", "isTerm", "()Z"⟩, prog_7_method_6_code, 1, (some .boolean), [])
set_option maxRecDepth 100000 in
theorem mV_T_isTerm : et_MV Y_T_isTerm := ⟨et_in 469 rfl rfl, et_in 53 (by decide +kernel) (by decide +kernel), et_in 467 (by decide +kernel) (by decide +kernel), et_in 468 (by decide +kernel) (by decide +kernel), by decide, by decide, by decide⟩
abbrev Y_K_classOf : et_Y := (⟨"EqualTerms$Walk", "classOf", "([IIIZ)I"⟩, prog_8_method_2_code, 11, (some .int), [])
set_option maxRecDepth 100000 in
theorem mV_K_classOf : et_MV Y_K_classOf := ⟨et_in 474 rfl rfl, et_in 55 (by decide +kernel) (by decide +kernel), et_in 472 (by decide +kernel) (by decide +kernel), et_in 473 (by decide +kernel) (by decide +kernel), by decide, by decide, by decide⟩
abbrev Y_G_homeOf : et_Y := (⟨"EqualTerms$Graph", "homeOf", "(IIIZ)I"⟩, prog_3_method_2_code, 6, (some .int), [])
set_option maxRecDepth 100000 in
theorem mV_G_homeOf : et_MV Y_G_homeOf := ⟨et_in 480 rfl rfl, et_in 54 (by decide +kernel) (by decide +kernel), et_in 478 (by decide +kernel) (by decide +kernel), et_in 479 (by decide +kernel) (by decide +kernel), by decide, by decide, by decide⟩
abbrev Y_G_nodeAmong : et_Y := (⟨"EqualTerms$Graph", "nodeAmong", "(IIII)I"⟩, prog_3_method_3_code, 6, (some .int), [])
set_option maxRecDepth 100000 in
theorem mV_G_nodeAmong : et_MV Y_G_nodeAmong := ⟨et_in 484 rfl rfl, et_in 54 (by decide +kernel) (by decide +kernel), et_in 483 (by decide +kernel) (by decide +kernel), et_in 6 (by decide +kernel) (by decide +kernel), by decide, by decide, by decide⟩
abbrev Y_G_putNode : et_Y := (⟨"EqualTerms$Graph", "putNode", "(IIIII)V"⟩, prog_3_method_4_code, 6, none, [])
set_option maxRecDepth 100000 in
theorem mV_G_putNode : et_MV Y_G_putNode := ⟨et_in 488 rfl rfl, et_in 54 (by decide +kernel) (by decide +kernel), et_in 487 (by decide +kernel) (by decide +kernel), et_in 7 (by decide +kernel) (by decide +kernel), by decide, by decide, by decide⟩
abbrev Y_G_goBack : et_Y := (⟨"EqualTerms$Graph", "goBack", "(II)V"⟩, prog_3_method_6_code, 3, none, [])
set_option maxRecDepth 100000 in
theorem mV_G_goBack : et_MV Y_G_goBack := ⟨et_in 492 rfl rfl, et_in 54 (by decide +kernel) (by decide +kernel), et_in 490 (by decide +kernel) (by decide +kernel), et_in 491 (by decide +kernel) (by decide +kernel), by decide, by decide, by decide⟩
abbrev Y_G_nameAllByNumber : et_Y := (⟨"EqualTerms$Graph", "nameAllByNumber", "()V"⟩, prog_3_method_7_code, 2, none, [])
set_option maxRecDepth 100000 in
theorem mV_G_nameAllByNumber : et_MV Y_G_nameAllByNumber := ⟨et_in 496 rfl rfl, et_in 54 (by decide +kernel) (by decide +kernel), et_in 495 (by decide +kernel) (by decide +kernel), et_in 8 (by decide +kernel) (by decide +kernel), by decide, by decide, by decide⟩
abbrev Y_L_unite : et_Y := (⟨"EqualTermsLaw", "unite", "(LEqualTerms;[J)I"⟩, method_5_code, 3, (some .int), [(0, 8, 11, 13), (0, 8, 14, 15)])
set_option maxRecDepth 100000 in
theorem mS_L_unite : et_MS Y_L_unite := ⟨et_in 500 rfl rfl, et_in 51 (by decide +kernel) (by decide +kernel), et_in 499 (by decide +kernel) (by decide +kernel), by decide, by decide, by decide⟩
abbrev Y_E_unite : et_Y := (⟨"EqualTerms", "unite", "()I"⟩, prog_1_method_8_code, 5, (some .int), [])
set_option maxRecDepth 100000 in
theorem mV_E_unite : et_MV Y_E_unite := ⟨et_in 504 rfl rfl, et_in 52 (by decide +kernel) (by decide +kernel), et_in 502 (by decide +kernel) (by decide +kernel), et_in 503 (by decide +kernel) (by decide +kernel), by decide, by decide, by decide⟩
abbrev Y_E_demandEquation : et_Y := (⟨"EqualTerms", "demandEquation", "()V"⟩, prog_1_method_18_code, 1, none, [])
set_option maxRecDepth 100000 in
theorem mV_E_demandEquation : et_MV Y_E_demandEquation := ⟨et_in 508 rfl rfl, et_in 52 (by decide +kernel) (by decide +kernel), et_in 507 (by decide +kernel) (by decide +kernel), et_in 9 (by decide +kernel) (by decide +kernel), by decide, by decide, by decide⟩
abbrev Y_T_isEquation : et_Y := (⟨"EqualTerms$Text", "isEquation", "()Z"⟩, prog_7_method_7_code, 1, (some .boolean), [])
set_option maxRecDepth 100000 in
theorem mV_T_isEquation : et_MV Y_T_isEquation := ⟨et_in 512 rfl rfl, et_in 53 (by decide +kernel) (by decide +kernel), et_in 510 (by decide +kernel) (by decide +kernel), et_in 511 (by decide +kernel) (by decide +kernel), by decide, by decide, by decide⟩
abbrev Y_G_join : et_Y := (⟨"EqualTerms$Graph", "join", "(II)Z"⟩, prog_3_method_8_code, 6, (some .boolean), [])
set_option maxRecDepth 100000 in
theorem mV_G_join : et_MV Y_G_join := ⟨et_in 518 rfl rfl, et_in 54 (by decide +kernel) (by decide +kernel), et_in 516 (by decide +kernel) (by decide +kernel), et_in 517 (by decide +kernel) (by decide +kernel), by decide, by decide, by decide⟩
abbrev Y_G_settle : et_Y := (⟨"EqualTerms$Graph", "settle", "()V"⟩, prog_3_method_9_code, 2, none, [])
set_option maxRecDepth 100000 in
theorem mV_G_settle : et_MV Y_G_settle := ⟨et_in 522 rfl rfl, et_in 54 (by decide +kernel) (by decide +kernel), et_in 520 (by decide +kernel) (by decide +kernel), et_in 521 (by decide +kernel) (by decide +kernel), by decide, by decide, by decide⟩
abbrev Y_G_rename : et_Y := (⟨"EqualTerms$Graph", "rename", "()V"⟩, prog_3_method_10_code, 2, none, [])
set_option maxRecDepth 100000 in
theorem mV_G_rename : et_MV Y_G_rename := ⟨et_in 526 rfl rfl, et_in 54 (by decide +kernel) (by decide +kernel), et_in 525 (by decide +kernel) (by decide +kernel), et_in 10 (by decide +kernel) (by decide +kernel), by decide, by decide, by decide⟩
abbrev Y_G_mergeTwins : et_Y := (⟨"EqualTerms$Graph", "mergeTwins", "()Z"⟩, prog_3_method_11_code, 4, (some .boolean), [])
set_option maxRecDepth 100000 in
theorem mV_G_mergeTwins : et_MV Y_G_mergeTwins := ⟨et_in 530 rfl rfl, et_in 54 (by decide +kernel) (by decide +kernel), et_in 529 (by decide +kernel) (by decide +kernel), et_in 11 (by decide +kernel) (by decide +kernel), by decide, by decide, by decide⟩
abbrev Y_G_renumber : et_Y := (⟨"EqualTerms$Graph", "renumber", "()V"⟩, prog_3_method_12_code, 3, none, [])
set_option maxRecDepth 100000 in
theorem mV_G_renumber : et_MV Y_G_renumber := ⟨et_in 535 rfl rfl, et_in 54 (by decide +kernel) (by decide +kernel), et_in 534 (by decide +kernel) (by decide +kernel), et_in 12 (by decide +kernel) (by decide +kernel), by decide, by decide, by decide⟩
abbrev Y_L_same : et_Y := (⟨"EqualTermsLaw", "same", "(LEqualTerms;[J)I"⟩, method_6_code, 3, (some .int), [(0, 8, 11, 13)])
set_option maxRecDepth 100000 in
theorem mS_L_same : et_MS Y_L_same := ⟨et_in 540 rfl rfl, et_in 51 (by decide +kernel) (by decide +kernel), et_in 539 (by decide +kernel) (by decide +kernel), by decide, by decide, by decide⟩
abbrev Y_E_same : et_Y := (⟨"EqualTerms", "same", "()I"⟩, prog_1_method_9_code, 3, (some .int), [])
set_option maxRecDepth 100000 in
theorem mV_E_same : et_MV Y_E_same := ⟨et_in 544 rfl rfl, et_in 52 (by decide +kernel) (by decide +kernel), et_in 542 (by decide +kernel) (by decide +kernel), et_in 543 (by decide +kernel) (by decide +kernel), by decide, by decide, by decide⟩
abbrev Y_L_price : et_Y := (⟨"EqualTermsLaw", "price", "(LEqualTerms;II)I"⟩, method_7_code, 4, (some .int), [(0, 6, 9, 13)])
set_option maxRecDepth 100000 in
theorem mS_L_price : et_MS Y_L_price := ⟨et_in 547 rfl rfl, et_in 51 (by decide +kernel) (by decide +kernel), et_in 546 (by decide +kernel) (by decide +kernel), by decide, by decide, by decide⟩
abbrev Y_E_price : et_Y := (⟨"EqualTerms", "price", "(II)V"⟩, prog_1_method_10_code, 3, none, [])
set_option maxRecDepth 100000 in
theorem mV_E_price : et_MV Y_E_price := ⟨et_in 551 rfl rfl, et_in 52 (by decide +kernel) (by decide +kernel), et_in 549 (by decide +kernel) (by decide +kernel), et_in 550 (by decide +kernel) (by decide +kernel), by decide, by decide, by decide⟩
abbrev Y_L_rounds : et_Y := (⟨"EqualTermsLaw", "rounds", "(LEqualTerms;I[J)I"⟩, method_8_code, 4, (some .int), [(0, 9, 12, 13)])
set_option maxRecDepth 100000 in
theorem mS_L_rounds : et_MS Y_L_rounds := ⟨et_in 558 rfl rfl, et_in 51 (by decide +kernel) (by decide +kernel), et_in 557 (by decide +kernel) (by decide +kernel), by decide, by decide, by decide⟩
abbrev Y_E_rounds : et_Y := (⟨"EqualTerms", "rounds", "(I)I"⟩, prog_1_method_11_code, 4, (some .int), [])
set_option maxRecDepth 100000 in
theorem mV_E_rounds : et_MV Y_E_rounds := ⟨et_in 562 rfl rfl, et_in 52 (by decide +kernel) (by decide +kernel), et_in 560 (by decide +kernel) (by decide +kernel), et_in 561 (by decide +kernel) (by decide +kernel), by decide, by decide, by decide⟩
abbrev Y_R_fitAll : et_Y := (⟨"EqualTerms$Round", "fitAll", "([LEqualTerms$Rule;I)Z"⟩, prog_4_method_2_code, 7, (some .boolean), [])
set_option maxRecDepth 100000 in
theorem mV_R_fitAll : et_MV Y_R_fitAll := ⟨et_in 567 rfl rfl, et_in 56 (by decide +kernel) (by decide +kernel), et_in 565 (by decide +kernel) (by decide +kernel), et_in 566 (by decide +kernel) (by decide +kernel), by decide, by decide, by decide⟩
abbrev Y_R_listNodes : et_Y := (⟨"EqualTerms$Round", "listNodes", "()V"⟩, prog_4_method_3_code, 4, none, [])
set_option maxRecDepth 100000 in
theorem mV_R_listNodes : et_MV Y_R_listNodes := ⟨et_in 571 rfl rfl, et_in 56 (by decide +kernel) (by decide +kernel), et_in 570 (by decide +kernel) (by decide +kernel), et_in 13 (by decide +kernel) (by decide +kernel), by decide, by decide, by decide⟩
abbrev Y_R_fitFrom : et_Y := (⟨"EqualTerms$Round", "fitFrom", "(LEqualTerms$Rule;I)Z"⟩, prog_4_method_4_code, 6, (some .boolean), [])
set_option maxRecDepth 100000 in
theorem mV_R_fitFrom : et_MV Y_R_fitFrom := ⟨et_in 575 rfl rfl, et_in 56 (by decide +kernel) (by decide +kernel), et_in 574 (by decide +kernel) (by decide +kernel), et_in 14 (by decide +kernel) (by decide +kernel), by decide, by decide, by decide⟩
abbrev Y_R_joinSides : et_Y := (⟨"EqualTerms$Round", "joinSides", "(LEqualTerms$Rule;)Z"⟩, prog_4_method_6_code, 3, (some .boolean), [])
set_option maxRecDepth 100000 in
theorem mV_R_joinSides : et_MV Y_R_joinSides := ⟨et_in 579 rfl rfl, et_in 56 (by decide +kernel) (by decide +kernel), et_in 578 (by decide +kernel) (by decide +kernel), et_in 15 (by decide +kernel) (by decide +kernel), by decide, by decide, by decide⟩
abbrev Y_R_seatParts : et_Y := (⟨"EqualTerms$Round", "seatParts", "(LEqualTerms$Rule;II)V"⟩, prog_4_method_5_code, 5, none, [])
set_option maxRecDepth 100000 in
theorem mV_R_seatParts : et_MV Y_R_seatParts := ⟨et_in 586 rfl rfl, et_in 56 (by decide +kernel) (by decide +kernel), et_in 585 (by decide +kernel) (by decide +kernel), et_in 16 (by decide +kernel) (by decide +kernel), by decide, by decide, by decide⟩
abbrev Y_L_members : et_Y := (⟨"EqualTermsLaw", "members", "(LEqualTerms;[J)I"⟩, method_9_code, 3, (some .int), [(0, 8, 11, 13)])
set_option maxRecDepth 100000 in
theorem mS_L_members : et_MS Y_L_members := ⟨et_in 592 rfl rfl, et_in 51 (by decide +kernel) (by decide +kernel), et_in 591 (by decide +kernel) (by decide +kernel), by decide, by decide, by decide⟩
abbrev Y_E_members : et_Y := (⟨"EqualTerms", "members", "()I"⟩, prog_1_method_14_code, 2, (some .int), [])
set_option maxRecDepth 100000 in
theorem mV_E_members : et_MV Y_E_members := ⟨et_in 596 rfl rfl, et_in 52 (by decide +kernel) (by decide +kernel), et_in 594 (by decide +kernel) (by decide +kernel), et_in 595 (by decide +kernel) (by decide +kernel), by decide, by decide, by decide⟩
abbrev Y_E_takeTerm : et_Y := (⟨"EqualTerms", "takeTerm", "()I"⟩, prog_1_method_19_code, 2, (some .int), [])
set_option maxRecDepth 100000 in
theorem mV_E_takeTerm : et_MV Y_E_takeTerm := ⟨et_in 600 rfl rfl, et_in 52 (by decide +kernel) (by decide +kernel), et_in 599 (by decide +kernel) (by decide +kernel), et_in 17 (by decide +kernel) (by decide +kernel), by decide, by decide, by decide⟩
abbrev Y_G_sizeOf : et_Y := (⟨"EqualTerms$Graph", "sizeOf", "(I)I"⟩, prog_3_method_5_code, 4, (some .int), [])
set_option maxRecDepth 100000 in
theorem mV_G_sizeOf : et_MV Y_G_sizeOf := ⟨et_in 604 rfl rfl, et_in 54 (by decide +kernel) (by decide +kernel), et_in 602 (by decide +kernel) (by decide +kernel), et_in 603 (by decide +kernel) (by decide +kernel), by decide, by decide, by decide⟩
abbrev Y_L_cost : et_Y := (⟨"EqualTermsLaw", "cost", "(LEqualTerms;[J)I"⟩, method_10_code, 3, (some .int), [(0, 7, 10, 13)])
set_option maxRecDepth 100000 in
theorem mS_L_cost : et_MS Y_L_cost := ⟨et_in 607 rfl rfl, et_in 51 (by decide +kernel) (by decide +kernel), et_in 606 (by decide +kernel) (by decide +kernel), by decide, by decide, by decide⟩
abbrev Y_E_cost : et_Y := (⟨"EqualTerms", "cost", "()J"⟩, prog_1_method_15_code, 2, (some .long), [])
set_option maxRecDepth 100000 in
theorem mV_E_cost : et_MV Y_E_cost := ⟨et_in 611 rfl rfl, et_in 52 (by decide +kernel) (by decide +kernel), et_in 609 (by decide +kernel) (by decide +kernel), et_in 610 (by decide +kernel) (by decide +kernel), by decide, by decide, by decide⟩
abbrev Y_C_weigh : et_Y := (⟨"EqualTerms$Cheapest", "weigh", "()V"⟩, prog_2_method_2_code, 4, none, [])
set_option maxRecDepth 100000 in
theorem mV_C_weigh : et_MV Y_C_weigh := ⟨et_in 616 rfl rfl, et_in 57 (by decide +kernel) (by decide +kernel), et_in 614 (by decide +kernel) (by decide +kernel), et_in 615 (by decide +kernel) (by decide +kernel), by decide, by decide, by decide⟩
abbrev Y_A_fill_JJ : et_Y := (⟨"java/util/Arrays", "fill", "([JJ)V"⟩, prog_20_method_101_code, 5, none, [])
set_option maxRecDepth 100000 in
theorem mS_A_fill_JJ : et_MS Y_A_fill_JJ := ⟨et_in 620 rfl rfl, et_in 58 (by decide +kernel) (by decide +kernel), et_in 619 (by decide +kernel) (by decide +kernel), by decide, by decide, by decide⟩
abbrev Y_C_weighNode : et_Y := (⟨"EqualTerms$Cheapest", "weighNode", "(I)Z"⟩, prog_2_method_3_code, 7, (some .boolean), [])
set_option maxRecDepth 100000 in
theorem mV_C_weighNode : et_MV Y_C_weighNode := ⟨et_in 624 rfl rfl, et_in 57 (by decide +kernel) (by decide +kernel), et_in 623 (by decide +kernel) (by decide +kernel), et_in 18 (by decide +kernel) (by decide +kernel), by decide, by decide, by decide⟩
abbrev Y_C_costThrough : et_Y := (⟨"EqualTerms$Cheapest", "costThrough", "(I)J"⟩, prog_2_method_4_code, 4, (some .long), [])
set_option maxRecDepth 100000 in
theorem mV_C_costThrough : et_MV Y_C_costThrough := ⟨et_in 628 rfl rfl, et_in 57 (by decide +kernel) (by decide +kernel), et_in 627 (by decide +kernel) (by decide +kernel), et_in 19 (by decide +kernel) (by decide +kernel), by decide, by decide, by decide⟩
abbrev Y_C_sum : et_Y := (⟨"EqualTerms$Cheapest", "sum", "(JJ)J"⟩, prog_2_method_5_code, 4, (some .long), [])
set_option maxRecDepth 100000 in
theorem mS_C_sum : et_MS Y_C_sum := ⟨et_in 631 rfl rfl, et_in 57 (by decide +kernel) (by decide +kernel), et_in 630 (by decide +kernel) (by decide +kernel), by decide, by decide, by decide⟩
abbrev Y_C_lengthThrough : et_Y := (⟨"EqualTerms$Cheapest", "lengthThrough", "(I)J"⟩, prog_2_method_6_code, 4, (some .long), [])
set_option maxRecDepth 100000 in
theorem mV_C_lengthThrough : et_MV Y_C_lengthThrough := ⟨et_in 636 rfl rfl, et_in 57 (by decide +kernel) (by decide +kernel), et_in 635 (by decide +kernel) (by decide +kernel), et_in 20 (by decide +kernel) (by decide +kernel), by decide, by decide, by decide⟩
abbrev Y_L_best : et_Y := (⟨"EqualTermsLaw", "best", "(LEqualTerms;[J)I"⟩, method_11_code, 3, (some .int), [(0, 8, 11, 13)])
set_option maxRecDepth 100000 in
theorem mS_L_best : et_MS Y_L_best := ⟨et_in 641 rfl rfl, et_in 51 (by decide +kernel) (by decide +kernel), et_in 640 (by decide +kernel) (by decide +kernel), by decide, by decide, by decide⟩
abbrev Y_E_best : et_Y := (⟨"EqualTerms", "best", "()I"⟩, prog_1_method_16_code, 3, (some .int), [])
set_option maxRecDepth 100000 in
theorem mV_E_best : et_MV Y_E_best := ⟨et_in 645 rfl rfl, et_in 52 (by decide +kernel) (by decide +kernel), et_in 643 (by decide +kernel) (by decide +kernel), et_in 644 (by decide +kernel) (by decide +kernel), by decide, by decide, by decide⟩
abbrev Y_C_spell : et_Y := (⟨"EqualTerms$Cheapest", "spell", "(I)V"⟩, prog_2_method_7_code, 4, none, [])
set_option maxRecDepth 100000 in
theorem mV_C_spell : et_MV Y_C_spell := ⟨et_in 650 rfl rfl, et_in 57 (by decide +kernel) (by decide +kernel), et_in 648 (by decide +kernel) (by decide +kernel), et_in 649 (by decide +kernel) (by decide +kernel), by decide, by decide, by decide⟩
abbrev Y_C_isBest : et_Y := (⟨"EqualTerms$Cheapest", "isBest", "(I)Z"⟩, prog_2_method_8_code, 3, (some .boolean), [])
set_option maxRecDepth 100000 in
theorem mV_C_isBest : et_MV Y_C_isBest := ⟨et_in 654 rfl rfl, et_in 57 (by decide +kernel) (by decide +kernel), et_in 653 (by decide +kernel) (by decide +kernel), et_in 21 (by decide +kernel) (by decide +kernel), by decide, by decide, by decide⟩
abbrev Y_C_spellNode : et_Y := (⟨"EqualTerms$Cheapest", "spellNode", "(II)V"⟩, prog_2_method_9_code, 5, none, [])
set_option maxRecDepth 100000 in
theorem mV_C_spellNode : et_MV Y_C_spellNode := ⟨et_in 658 rfl rfl, et_in 57 (by decide +kernel) (by decide +kernel), et_in 657 (by decide +kernel) (by decide +kernel), et_in 22 (by decide +kernel) (by decide +kernel), by decide, by decide, by decide⟩
abbrev Y_C_appendTerm : et_Y := (⟨"EqualTerms$Cheapest", "appendTerm", "(II)I"⟩, prog_2_method_10_code, 4, (some .int), [])
set_option maxRecDepth 100000 in
theorem mV_C_appendTerm : et_MV Y_C_appendTerm := ⟨et_in 662 rfl rfl, et_in 57 (by decide +kernel) (by decide +kernel), et_in 661 (by decide +kernel) (by decide +kernel), et_in 23 (by decide +kernel) (by decide +kernel), by decide, by decide, by decide⟩
abbrev Y_C_trialComesBefore : et_Y := (⟨"EqualTerms$Cheapest", "trialComesBefore", "([II)Z"⟩, prog_2_method_11_code, 4, (some .boolean), [])
set_option maxRecDepth 100000 in
theorem mV_C_trialComesBefore : et_MV Y_C_trialComesBefore := ⟨et_in 667 rfl rfl, et_in 57 (by decide +kernel) (by decide +kernel), et_in 666 (by decide +kernel) (by decide +kernel), et_in 24 (by decide +kernel) (by decide +kernel), by decide, by decide, by decide⟩
abbrev Y_T_become : et_Y := (⟨"EqualTerms$Text", "become", "([II)V"⟩, prog_7_method_5_code, 3, none, [])
set_option maxRecDepth 100000 in
theorem mV_T_become : et_MV Y_T_become := ⟨et_in 671 rfl rfl, et_in 53 (by decide +kernel) (by decide +kernel), et_in 669 (by decide +kernel) (by decide +kernel), et_in 670 (by decide +kernel) (by decide +kernel), by decide, by decide, by decide⟩
abbrev Y_M_init : et_Y := (⟨"EqualTermsModel", "<init>", "()V"⟩, prog_10_method_1_code, 2, none, [])
set_option maxRecDepth 100000 in
theorem mI_M_init : et_MI Y_M_init := ⟨et_in 677 rfl rfl, et_in 59 (by decide +kernel) (by decide +kernel), et_in 676 (by decide +kernel) (by decide +kernel), by decide, by decide, by decide, rfl, rfl, rfl⟩
abbrev Y_M_thrown : et_Y := (⟨"EqualTermsModel", "thrown", "()I"⟩, prog_10_method_2_code, 1, (some .int), [])
set_option maxRecDepth 100000 in
theorem mV_M_thrown : et_MV Y_M_thrown := ⟨et_in 781 rfl rfl, et_in 59 (by decide +kernel) (by decide +kernel), et_in 779 (by decide +kernel) (by decide +kernel), et_in 780 (by decide +kernel) (by decide +kernel), by decide, by decide, by decide⟩
abbrev Y_M_type : et_Y := (⟨"EqualTermsModel", "type", "(JI)I"⟩, prog_10_method_6_code, 7, (some .int), [])
set_option maxRecDepth 100000 in
theorem mV_M_type : et_MV Y_M_type := ⟨et_in 785 rfl rfl, et_in 59 (by decide +kernel) (by decide +kernel), et_in 783 (by decide +kernel) (by decide +kernel), et_in 784 (by decide +kernel) (by decide +kernel), by decide, by decide, by decide⟩
abbrev Y_M_within : et_Y := (⟨"EqualTermsModel", "within", "(III)Z"⟩, prog_10_method_4_code, 3, (some .boolean), [])
set_option maxRecDepth 100000 in
theorem mS_M_within : et_MS Y_M_within := ⟨et_in 788 rfl rfl, et_in 59 (by decide +kernel) (by decide +kernel), et_in 787 (by decide +kernel) (by decide +kernel), by decide, by decide, by decide⟩
abbrev Y_M_wipe : et_Y := (⟨"EqualTermsModel", "wipe", "()I"⟩, prog_10_method_7_code, 2, (some .int), [])
set_option maxRecDepth 100000 in
theorem mV_M_wipe : et_MV Y_M_wipe := ⟨et_in 795 rfl rfl, et_in 59 (by decide +kernel) (by decide +kernel), et_in 793 (by decide +kernel) (by decide +kernel), et_in 794 (by decide +kernel) (by decide +kernel), by decide, by decide, by decide⟩
abbrev Y_M_character : et_Y := (⟨"EqualTermsModel", "character", "(I)I"⟩, prog_10_method_8_code, 2, (some .int), [])
set_option maxRecDepth 100000 in
theorem mV_M_character : et_MV Y_M_character := ⟨et_in 799 rfl rfl, et_in 59 (by decide +kernel) (by decide +kernel), et_in 797 (by decide +kernel) (by decide +kernel), et_in 798 (by decide +kernel) (by decide +kernel), by decide, by decide, by decide⟩
abbrev Y_M_place : et_Y := (⟨"EqualTermsModel", "place", "()I"⟩, prog_10_method_9_code, 1, (some .int), [])
set_option maxRecDepth 100000 in
theorem mV_M_place : et_MV Y_M_place := ⟨et_in 803 rfl rfl, et_in 59 (by decide +kernel) (by decide +kernel), et_in 801 (by decide +kernel) (by decide +kernel), et_in 802 (by decide +kernel) (by decide +kernel), by decide, by decide, by decide⟩
abbrev Y_M_rule : et_Y := (⟨"EqualTermsModel", "rule", "()I"⟩, prog_10_method_14_code, 3, (some .int), [])
set_option maxRecDepth 100000 in
theorem mV_M_rule : et_MV Y_M_rule := ⟨et_in 807 rfl rfl, et_in 59 (by decide +kernel) (by decide +kernel), et_in 805 (by decide +kernel) (by decide +kernel), et_in 806 (by decide +kernel) (by decide +kernel), by decide, by decide, by decide⟩
abbrev Y_M_readBoth : et_Y := (⟨"EqualTermsModel", "readBoth", "(IZ)I"⟩, prog_10_method_13_code, 4, (some .int), [])
set_option maxRecDepth 100000 in
theorem mV_M_readBoth : et_MV Y_M_readBoth := ⟨et_in 811 rfl rfl, et_in 59 (by decide +kernel) (by decide +kernel), et_in 810 (by decide +kernel) (by decide +kernel), et_in 25 (by decide +kernel) (by decide +kernel), by decide, by decide, by decide⟩
abbrev Y_M_readSide : et_Y := (⟨"EqualTermsModel", "readSide", "(II)Z"⟩, prog_10_method_11_code, 6, (some .boolean), [])
set_option maxRecDepth 100000 in
theorem mV_M_readSide : et_MV Y_M_readSide := ⟨et_in 815 rfl rfl, et_in 59 (by decide +kernel) (by decide +kernel), et_in 814 (by decide +kernel) (by decide +kernel), et_in 26 (by decide +kernel) (by decide +kernel), by decide, by decide, by decide⟩
abbrev Y_M_fail : et_Y := (⟨"EqualTermsModel", "fail", "()Z"⟩, prog_10_method_10_code, 1, (some .boolean), [])
set_option maxRecDepth 100000 in
theorem mV_M_fail : et_MV Y_M_fail := ⟨et_in 819 rfl rfl, et_in 59 (by decide +kernel) (by decide +kernel), et_in 818 (by decide +kernel) (by decide +kernel), et_in 27 (by decide +kernel) (by decide +kernel), by decide, by decide, by decide⟩
abbrev Y_M_takes : et_Y := (⟨"EqualTermsModel", "takes", "(I)I"⟩, prog_10_method_5_code, 1, (some .int), [])
set_option maxRecDepth 100000 in
theorem mS_M_takes : et_MS Y_M_takes := ⟨et_in 822 rfl rfl, et_in 59 (by decide +kernel) (by decide +kernel), et_in 821 (by decide +kernel) (by decide +kernel), by decide, by decide, by decide⟩
abbrev Y_M_refuse : et_Y := (⟨"EqualTermsModel", "refuse", "(I)I"⟩, prog_10_method_3_code, 2, (some .int), [])
set_option maxRecDepth 100000 in
theorem mV_M_refuse : et_MV Y_M_refuse := ⟨et_in 826 rfl rfl, et_in 59 (by decide +kernel) (by decide +kernel), et_in 825 (by decide +kernel) (by decide +kernel), et_in 28 (by decide +kernel) (by decide +kernel), by decide, by decide, by decide⟩
abbrev Y_M_add : et_Y := (⟨"EqualTermsModel", "add", "()I"⟩, prog_10_method_26_code, 4, (some .int), [])
set_option maxRecDepth 100000 in
theorem mV_M_add : et_MV Y_M_add := ⟨et_in 830 rfl rfl, et_in 59 (by decide +kernel) (by decide +kernel), et_in 828 (by decide +kernel) (by decide +kernel), et_in 829 (by decide +kernel) (by decide +kernel), by decide, by decide, by decide⟩
abbrev Y_M_readTerm : et_Y := (⟨"EqualTermsModel", "readTerm", "()Z"⟩, prog_10_method_12_code, 1, (some .boolean), [])
set_option maxRecDepth 100000 in
theorem mV_M_readTerm : et_MV Y_M_readTerm := ⟨et_in 834 rfl rfl, et_in 59 (by decide +kernel) (by decide +kernel), et_in 833 (by decide +kernel) (by decide +kernel), et_in 29 (by decide +kernel) (by decide +kernel), by decide, by decide, by decide⟩
abbrev Y_M_workText : et_Y := (⟨"EqualTermsModel", "workText", "(III)I"⟩, prog_10_method_18_code, 6, (some .int), [])
set_option maxRecDepth 100000 in
theorem mV_M_workText : et_MV Y_M_workText := ⟨et_in 838 rfl rfl, et_in 59 (by decide +kernel) (by decide +kernel), et_in 837 (by decide +kernel) (by decide +kernel), et_in 30 (by decide +kernel) (by decide +kernel), by decide, by decide, by decide⟩
abbrev Y_M_push : et_Y := (⟨"EqualTermsModel", "push", "(II)Z"⟩, prog_10_method_17_code, 7, (some .boolean), [])
set_option maxRecDepth 100000 in
theorem mV_M_push : et_MV Y_M_push := ⟨et_in 842 rfl rfl, et_in 59 (by decide +kernel) (by decide +kernel), et_in 841 (by decide +kernel) (by decide +kernel), et_in 31 (by decide +kernel) (by decide +kernel), by decide, by decide, by decide⟩
abbrev Y_M_classOf : et_Y := (⟨"EqualTermsModel", "classOf", "(IIII)I"⟩, prog_10_method_16_code, 6, (some .int), [])
set_option maxRecDepth 100000 in
theorem mV_M_classOf : et_MV Y_M_classOf := ⟨et_in 846 rfl rfl, et_in 59 (by decide +kernel) (by decide +kernel), et_in 845 (by decide +kernel) (by decide +kernel), et_in 32 (by decide +kernel) (by decide +kernel), by decide, by decide, by decide⟩
abbrev Y_M_findNode : et_Y := (⟨"EqualTermsModel", "findNode", "(III)I"⟩, prog_10_method_15_code, 5, (some .int), [])
set_option maxRecDepth 100000 in
theorem mV_M_findNode : et_MV Y_M_findNode := ⟨et_in 850 rfl rfl, et_in 59 (by decide +kernel) (by decide +kernel), et_in 849 (by decide +kernel) (by decide +kernel), et_in 33 (by decide +kernel) (by decide +kernel), by decide, by decide, by decide⟩
abbrev Y_M_cut : et_Y := (⟨"EqualTermsModel", "cut", "(II)V"⟩, prog_10_method_25_code, 4, none, [])
set_option maxRecDepth 100000 in
theorem mV_M_cut : et_MV Y_M_cut := ⟨et_in 854 rfl rfl, et_in 59 (by decide +kernel) (by decide +kernel), et_in 853 (by decide +kernel) (by decide +kernel), et_in 34 (by decide +kernel) (by decide +kernel), by decide, by decide, by decide⟩
abbrev Y_M_unite : et_Y := (⟨"EqualTermsModel", "unite", "()I"⟩, prog_10_method_27_code, 6, (some .int), [])
set_option maxRecDepth 100000 in
theorem mV_M_unite : et_MV Y_M_unite := ⟨et_in 858 rfl rfl, et_in 59 (by decide +kernel) (by decide +kernel), et_in 856 (by decide +kernel) (by decide +kernel), et_in 857 (by decide +kernel) (by decide +kernel), by decide, by decide, by decide⟩
abbrev Y_M_joinClasses : et_Y := (⟨"EqualTermsModel", "joinClasses", "(II)V"⟩, prog_10_method_20_code, 6, none, [])
set_option maxRecDepth 100000 in
theorem mV_M_joinClasses : et_MV Y_M_joinClasses := ⟨et_in 862 rfl rfl, et_in 59 (by decide +kernel) (by decide +kernel), et_in 861 (by decide +kernel) (by decide +kernel), et_in 35 (by decide +kernel) (by decide +kernel), by decide, by decide, by decide⟩
abbrev Y_M_close : et_Y := (⟨"EqualTermsModel", "close", "()V"⟩, prog_10_method_23_code, 4, none, [])
set_option maxRecDepth 100000 in
theorem mV_M_close : et_MV Y_M_close := ⟨et_in 866 rfl rfl, et_in 59 (by decide +kernel) (by decide +kernel), et_in 865 (by decide +kernel) (by decide +kernel), et_in 36 (by decide +kernel) (by decide +kernel), by decide, by decide, by decide⟩
abbrev Y_M_labelOf : et_Y := (⟨"EqualTermsModel", "labelOf", "(I)I"⟩, prog_10_method_22_code, 2, (some .int), [])
set_option maxRecDepth 100000 in
theorem mV_M_labelOf : et_MV Y_M_labelOf := ⟨et_in 870 rfl rfl, et_in 59 (by decide +kernel) (by decide +kernel), et_in 869 (by decide +kernel) (by decide +kernel), et_in 37 (by decide +kernel) (by decide +kernel), by decide, by decide, by decide⟩
abbrev Y_M_removeNode : et_Y := (⟨"EqualTermsModel", "removeNode", "(I)V"⟩, prog_10_method_21_code, 3, none, [])
set_option maxRecDepth 100000 in
theorem mV_M_removeNode : et_MV Y_M_removeNode := ⟨et_in 874 rfl rfl, et_in 59 (by decide +kernel) (by decide +kernel), et_in 873 (by decide +kernel) (by decide +kernel), et_in 38 (by decide +kernel) (by decide +kernel), by decide, by decide, by decide⟩
abbrev Y_M_renumber : et_Y := (⟨"EqualTermsModel", "renumber", "()V"⟩, prog_10_method_24_code, 4, none, [])
set_option maxRecDepth 100000 in
theorem mV_M_renumber : et_MV Y_M_renumber := ⟨et_in 878 rfl rfl, et_in 59 (by decide +kernel) (by decide +kernel), et_in 877 (by decide +kernel) (by decide +kernel), et_in 39 (by decide +kernel) (by decide +kernel), by decide, by decide, by decide⟩
abbrev Y_M_same : et_Y := (⟨"EqualTermsModel", "same", "()I"⟩, prog_10_method_28_code, 4, (some .int), [])
set_option maxRecDepth 100000 in
theorem mV_M_same : et_MV Y_M_same := ⟨et_in 882 rfl rfl, et_in 59 (by decide +kernel) (by decide +kernel), et_in 880 (by decide +kernel) (by decide +kernel), et_in 881 (by decide +kernel) (by decide +kernel), by decide, by decide, by decide⟩
abbrev Y_M_price : et_Y := (⟨"EqualTermsModel", "price", "(II)V"⟩, prog_10_method_29_code, 3, none, [])
set_option maxRecDepth 100000 in
theorem mV_M_price : et_MV Y_M_price := ⟨et_in 886 rfl rfl, et_in 59 (by decide +kernel) (by decide +kernel), et_in 884 (by decide +kernel) (by decide +kernel), et_in 885 (by decide +kernel) (by decide +kernel), by decide, by decide, by decide⟩
abbrev Y_M_rounds : et_Y := (⟨"EqualTermsModel", "rounds", "(I)I"⟩, prog_10_method_37_code, 4, (some .int), [])
set_option maxRecDepth 100000 in
theorem mV_M_rounds : et_MV Y_M_rounds := ⟨et_in 891 rfl rfl, et_in 59 (by decide +kernel) (by decide +kernel), et_in 889 (by decide +kernel) (by decide +kernel), et_in 890 (by decide +kernel) (by decide +kernel), by decide, by decide, by decide⟩
abbrev Y_M_oneRound : et_Y := (⟨"EqualTermsModel", "oneRound", "()I"⟩, prog_10_method_36_code, 4, (some .int), [])
set_option maxRecDepth 100000 in
theorem mV_M_oneRound : et_MV Y_M_oneRound := ⟨et_in 895 rfl rfl, et_in 59 (by decide +kernel) (by decide +kernel), et_in 894 (by decide +kernel) (by decide +kernel), et_in 40 (by decide +kernel) (by decide +kernel), by decide, by decide, by decide⟩
abbrev Y_M_fillTables : et_Y := (⟨"EqualTermsModel", "fillTables", "()V"⟩, prog_10_method_31_code, 3, none, [])
set_option maxRecDepth 100000 in
theorem mV_M_fillTables : et_MV Y_M_fillTables := ⟨et_in 899 rfl rfl, et_in 59 (by decide +kernel) (by decide +kernel), et_in 898 (by decide +kernel) (by decide +kernel), et_in 41 (by decide +kernel) (by decide +kernel), by decide, by decide, by decide⟩
abbrev Y_M_kindOf : et_Y := (⟨"EqualTermsModel", "kindOf", "(I)I"⟩, prog_10_method_30_code, 1, (some .int), [])
set_option maxRecDepth 100000 in
theorem mS_M_kindOf : et_MS Y_M_kindOf := ⟨et_in 902 rfl rfl, et_in 59 (by decide +kernel) (by decide +kernel), et_in 901 (by decide +kernel) (by decide +kernel), by decide, by decide, by decide⟩
abbrev Y_M_fit : et_Y := (⟨"EqualTermsModel", "fit", "(II)V"⟩, prog_10_method_35_code, 7, none, [])
set_option maxRecDepth 100000 in
theorem mV_M_fit : et_MV Y_M_fit := ⟨et_in 906 rfl rfl, et_in 59 (by decide +kernel) (by decide +kernel), et_in 905 (by decide +kernel) (by decide +kernel), et_in 42 (by decide +kernel) (by decide +kernel), by decide, by decide, by decide⟩
abbrev Y_M_variablesOf : et_Y := (⟨"EqualTermsModel", "variablesOf", "(I)I"⟩, prog_10_method_33_code, 5, (some .int), [])
set_option maxRecDepth 100000 in
theorem mV_M_variablesOf : et_MV Y_M_variablesOf := ⟨et_in 910 rfl rfl, et_in 59 (by decide +kernel) (by decide +kernel), et_in 909 (by decide +kernel) (by decide +kernel), et_in 43 (by decide +kernel) (by decide +kernel), by decide, by decide, by decide⟩
abbrev Y_M_tabled : et_Y := (⟨"EqualTermsModel", "tabled", "(I)I"⟩, prog_10_method_32_code, 7, (some .int), [])
set_option maxRecDepth 100000 in
theorem mV_M_tabled : et_MV Y_M_tabled := ⟨et_in 914 rfl rfl, et_in 59 (by decide +kernel) (by decide +kernel), et_in 913 (by decide +kernel) (by decide +kernel), et_in 44 (by decide +kernel) (by decide +kernel), by decide, by decide, by decide⟩
abbrev Y_M_workSide : et_Y := (⟨"EqualTermsModel", "workSide", "(II)I"⟩, prog_10_method_19_code, 5, (some .int), [])
set_option maxRecDepth 100000 in
theorem mV_M_workSide : et_MV Y_M_workSide := ⟨et_in 918 rfl rfl, et_in 59 (by decide +kernel) (by decide +kernel), et_in 917 (by decide +kernel) (by decide +kernel), et_in 45 (by decide +kernel) (by decide +kernel), by decide, by decide, by decide⟩
abbrev Y_M_nextChoice : et_Y := (⟨"EqualTermsModel", "nextChoice", "(II)Z"⟩, prog_10_method_34_code, 4, (some .boolean), [])
set_option maxRecDepth 100000 in
theorem mV_M_nextChoice : et_MV Y_M_nextChoice := ⟨et_in 922 rfl rfl, et_in 59 (by decide +kernel) (by decide +kernel), et_in 921 (by decide +kernel) (by decide +kernel), et_in 46 (by decide +kernel) (by decide +kernel), by decide, by decide, by decide⟩
abbrev Y_M_nodes : et_Y := (⟨"EqualTermsModel", "nodes", "()I"⟩, prog_10_method_38_code, 1, (some .int), [])
set_option maxRecDepth 100000 in
theorem mV_M_nodes : et_MV Y_M_nodes := ⟨et_in 926 rfl rfl, et_in 59 (by decide +kernel) (by decide +kernel), et_in 924 (by decide +kernel) (by decide +kernel), et_in 925 (by decide +kernel) (by decide +kernel), by decide, by decide, by decide⟩
abbrev Y_M_classes : et_Y := (⟨"EqualTermsModel", "classes", "()I"⟩, prog_10_method_39_code, 1, (some .int), [])
set_option maxRecDepth 100000 in
theorem mV_M_classes : et_MV Y_M_classes := ⟨et_in 930 rfl rfl, et_in 59 (by decide +kernel) (by decide +kernel), et_in 928 (by decide +kernel) (by decide +kernel), et_in 929 (by decide +kernel) (by decide +kernel), by decide, by decide, by decide⟩
abbrev Y_M_members : et_Y := (⟨"EqualTermsModel", "members", "()I"⟩, prog_10_method_41_code, 4, (some .int), [])
set_option maxRecDepth 100000 in
theorem mV_M_members : et_MV Y_M_members := ⟨et_in 934 rfl rfl, et_in 59 (by decide +kernel) (by decide +kernel), et_in 932 (by decide +kernel) (by decide +kernel), et_in 933 (by decide +kernel) (by decide +kernel), by decide, by decide, by decide⟩
abbrev Y_M_asked : et_Y := (⟨"EqualTermsModel", "asked", "()I"⟩, prog_10_method_40_code, 2, (some .int), [])
set_option maxRecDepth 100000 in
theorem mV_M_asked : et_MV Y_M_asked := ⟨et_in 938 rfl rfl, et_in 59 (by decide +kernel) (by decide +kernel), et_in 937 (by decide +kernel) (by decide +kernel), et_in 47 (by decide +kernel) (by decide +kernel), by decide, by decide, by decide⟩
abbrev Y_M_cost : et_Y := (⟨"EqualTermsModel", "cost", "()J"⟩, prog_10_method_46_code, 2, (some .long), [])
set_option maxRecDepth 100000 in
theorem mV_M_cost : et_MV Y_M_cost := ⟨et_in 942 rfl rfl, et_in 59 (by decide +kernel) (by decide +kernel), et_in 940 (by decide +kernel) (by decide +kernel), et_in 941 (by decide +kernel) (by decide +kernel), by decide, by decide, by decide⟩
abbrev Y_M_findBest : et_Y := (⟨"EqualTermsModel", "findBest", "()V"⟩, prog_10_method_45_code, 5, none, [])
set_option maxRecDepth 100000 in
theorem mV_M_findBest : et_MV Y_M_findBest := ⟨et_in 947 rfl rfl, et_in 59 (by decide +kernel) (by decide +kernel), et_in 946 (by decide +kernel) (by decide +kernel), et_in 48 (by decide +kernel) (by decide +kernel), by decide, by decide, by decide⟩
abbrev Y_M_append : et_Y := (⟨"EqualTermsModel", "append", "(I)V"⟩, prog_10_method_43_code, 3, none, [])
set_option maxRecDepth 100000 in
theorem mV_M_append : et_MV Y_M_append := ⟨et_in 952 rfl rfl, et_in 59 (by decide +kernel) (by decide +kernel), et_in 951 (by decide +kernel) (by decide +kernel), et_in 49 (by decide +kernel) (by decide +kernel), by decide, by decide, by decide⟩
abbrev Y_M_sum : et_Y := (⟨"EqualTermsModel", "sum", "(JJ)J"⟩, prog_10_method_42_code, 4, (some .long), [])
set_option maxRecDepth 100000 in
theorem mS_M_sum : et_MS Y_M_sum := ⟨et_in 955 rfl rfl, et_in 59 (by decide +kernel) (by decide +kernel), et_in 954 (by decide +kernel) (by decide +kernel), by decide, by decide, by decide⟩
abbrev Y_M_isBetter : et_Y := (⟨"EqualTermsModel", "isBetter", "(I)Z"⟩, prog_10_method_44_code, 3, (some .boolean), [])
set_option maxRecDepth 100000 in
theorem mV_M_isBetter : et_MV Y_M_isBetter := ⟨et_in 961 rfl rfl, et_in 59 (by decide +kernel) (by decide +kernel), et_in 960 (by decide +kernel) (by decide +kernel), et_in 50 (by decide +kernel) (by decide +kernel), by decide, by decide, by decide⟩
abbrev Y_M_best : et_Y := (⟨"EqualTermsModel", "best", "()I"⟩, prog_10_method_47_code, 3, (some .int), [])
set_option maxRecDepth 100000 in
theorem mV_M_best : et_MV Y_M_best := ⟨et_in 966 rfl rfl, et_in 59 (by decide +kernel) (by decide +kernel), et_in 964 (by decide +kernel) (by decide +kernel), et_in 965 (by decide +kernel) (by decide +kernel), by decide, by decide, by decide⟩
theorem ini_L : Cond.initialized "EqualTermsLaw" ∈ et_W := et_in 51 (by decide +kernel) (by decide +kernel)
theorem ini_E : Cond.initialized "EqualTerms" ∈ et_W := et_in 52 (by decide +kernel) (by decide +kernel)
theorem ini_T : Cond.initialized "EqualTerms$Text" ∈ et_W := et_in 53 (by decide +kernel) (by decide +kernel)
theorem ini_G : Cond.initialized "EqualTerms$Graph" ∈ et_W := et_in 54 (by decide +kernel) (by decide +kernel)
theorem ini_K : Cond.initialized "EqualTerms$Walk" ∈ et_W := et_in 55 (by decide +kernel) (by decide +kernel)
theorem ini_R : Cond.initialized "EqualTerms$Round" ∈ et_W := et_in 56 (by decide +kernel) (by decide +kernel)
theorem ini_C : Cond.initialized "EqualTerms$Cheapest" ∈ et_W := et_in 57 (by decide +kernel) (by decide +kernel)
theorem ini_A : Cond.initialized "java/util/Arrays" ∈ et_W := et_in 58 (by decide +kernel) (by decide +kernel)
theorem ini_M : Cond.initialized "EqualTermsModel" ∈ et_W := et_in 59 (by decide +kernel) (by decide +kernel)
theorem ini_S : Cond.initialized "EqualTerms$Signs" ∈ et_W := et_in 60 (by decide +kernel) (by decide +kernel)
theorem ini_Throwable : Cond.initialized "java/lang/Throwable" ∈ et_W := et_in 61 (by decide +kernel) (by decide +kernel)
theorem ini_Exception : Cond.initialized "java/lang/Exception" ∈ et_W := et_in 62 (by decide +kernel) (by decide +kernel)
theorem ini_RuntimeException : Cond.initialized "java/lang/RuntimeException" ∈ et_W := et_in 63 (by decide +kernel) (by decide +kernel)
theorem ini_IllegalArgumentException : Cond.initialized "java/lang/IllegalArgumentException" ∈ et_W := et_in 64 (by decide +kernel) (by decide +kernel)
theorem ini_IllegalStateException : Cond.initialized "java/lang/IllegalStateException" ∈ et_W := et_in 65 (by decide +kernel) (by decide +kernel)
theorem ini_U : Cond.initialized "EqualTerms$Rule" ∈ et_W := et_in 66 (by decide +kernel) (by decide +kernel)
theorem ini_H : Cond.initialized "java/lang/Math" ∈ et_W := et_in 67 (by decide +kernel) (by decide +kernel)
theorem ini_System : Cond.initialized "java/lang/System" ∈ et_W := et_in 68 (by decide +kernel) (by decide +kernel)
theorem cl_L_8 : Cond.classLink "EqualTermsLaw" 8 "EqualTerms" ∈ et_W := et_in 69 (by decide +kernel) (by decide +kernel)
theorem ins_E : Cond.instantiable "EqualTerms" 7 ∈ et_W := et_in 70 (by decide +kernel) (by decide +kernel)
theorem lk_L_44 : et_lk "EqualTermsLaw" 44 (Y_E_init).1 := Or.inl (et_in 71 (by decide +kernel) (by decide +kernel))
theorem lk_E_1 : et_lk "EqualTerms" 1 (Y_O_init).1 := Or.inl (et_in 74 (by decide +kernel) (by decide +kernel))
theorem cl_E_7 : Cond.classLink "EqualTerms" 7 "EqualTerms$Text" ∈ et_W := et_in 77 (by decide +kernel) (by decide +kernel)
theorem ins_T : Cond.instantiable "EqualTerms$Text" 4 ∈ et_W := et_in 78 (by decide +kernel) (by decide +kernel)
theorem lk_E_9 : et_lk "EqualTerms" 9 (Y_T_init).1 := Or.inr ⟨"EqualTerms", by decide +kernel⟩
theorem lk_T_3 : et_lk "EqualTerms$Text" 3 (Y_O_init).1 := Or.inl (et_in 82 (by decide +kernel) (by decide +kernel))
theorem fl_T_9 : Cond.fieldLink "EqualTerms$Text" 9 "EqualTerms$Text" "characters" "[I" ∈ et_W := et_in 83 (by decide +kernel) (by decide +kernel)
theorem fl_U_19 : Cond.fieldLink "EqualTerms$Rule" 19 "EqualTerms$Text" "characters" "[I" ∈ et_W := et_in 84 (by decide +kernel) (by decide +kernel)
theorem fl_E_68 : Cond.fieldLink "EqualTerms" 68 "EqualTerms$Text" "characters" "[I" ∈ et_W := et_in 85 (by decide +kernel) (by decide +kernel)
theorem fl_T_15 : Cond.fieldLink "EqualTerms$Text" 15 "EqualTerms$Text" "size" "I" ∈ et_W := et_in 86 (by decide +kernel) (by decide +kernel)
theorem fl_U_24 : Cond.fieldLink "EqualTerms$Rule" 24 "EqualTerms$Text" "size" "I" ∈ et_W := et_in 87 (by decide +kernel) (by decide +kernel)
theorem fl_E_62 : Cond.fieldLink "EqualTerms" 62 "EqualTerms$Text" "size" "I" ∈ et_W := et_in 88 (by decide +kernel) (by decide +kernel)
theorem fl_T_19 : Cond.fieldLink "EqualTerms$Text" 19 "EqualTerms$Text" "middle" "I" ∈ et_W := et_in 89 (by decide +kernel) (by decide +kernel)
theorem fl_U_35 : Cond.fieldLink "EqualTerms$Rule" 35 "EqualTerms$Text" "middle" "I" ∈ et_W := et_in 90 (by decide +kernel) (by decide +kernel)
theorem fl_E_116 : Cond.fieldLink "EqualTerms" 116 "EqualTerms$Text" "middle" "I" ∈ et_W := et_in 91 (by decide +kernel) (by decide +kernel)
theorem fl_T_22 : Cond.fieldLink "EqualTerms$Text" 22 "EqualTerms$Text" "wrongPlace" "I" ∈ et_W := et_in 92 (by decide +kernel) (by decide +kernel)
theorem fl_E_72 : Cond.fieldLink "EqualTerms" 72 "EqualTerms$Text" "wrongPlace" "I" ∈ et_W := et_in 93 (by decide +kernel) (by decide +kernel)
theorem ac_int : Cond.arrayClass .int ∈ et_W := et_in 103 (by decide +kernel) (by decide +kernel)
theorem cl_E_16 : Cond.classLink "EqualTerms" 16 "EqualTerms$Graph" ∈ et_W := et_in 104 (by decide +kernel) (by decide +kernel)
theorem ins_G : Cond.instantiable "EqualTerms$Graph" 8 ∈ et_W := et_in 105 (by decide +kernel) (by decide +kernel)
theorem lk_E_18 : et_lk "EqualTerms" 18 (Y_G_init).1 := Or.inr ⟨"EqualTerms", by decide +kernel⟩
theorem lk_G_3 : et_lk "EqualTerms$Graph" 3 (Y_O_init).1 := Or.inl (et_in 109 (by decide +kernel) (by decide +kernel))
theorem fl_G_9 : Cond.fieldLink "EqualTerms$Graph" 9 "EqualTerms$Graph" "signs" "[I" ∈ et_W := et_in 110 (by decide +kernel) (by decide +kernel)
theorem fl_C_70 : Cond.fieldLink "EqualTerms$Cheapest" 70 "EqualTerms$Graph" "signs" "[I" ∈ et_W := et_in 111 (by decide +kernel) (by decide +kernel)
theorem fl_R_86 : Cond.fieldLink "EqualTerms$Round" 86 "EqualTerms$Graph" "signs" "[I" ∈ et_W := et_in 112 (by decide +kernel) (by decide +kernel)
theorem fl_G_15 : Cond.fieldLink "EqualTerms$Graph" 15 "EqualTerms$Graph" "lefts" "[I" ∈ et_W := et_in 113 (by decide +kernel) (by decide +kernel)
theorem fl_C_73 : Cond.fieldLink "EqualTerms$Cheapest" 73 "EqualTerms$Graph" "lefts" "[I" ∈ et_W := et_in 114 (by decide +kernel) (by decide +kernel)
theorem fl_R_97 : Cond.fieldLink "EqualTerms$Round" 97 "EqualTerms$Graph" "lefts" "[I" ∈ et_W := et_in 115 (by decide +kernel) (by decide +kernel)
theorem fl_G_18 : Cond.fieldLink "EqualTerms$Graph" 18 "EqualTerms$Graph" "rights" "[I" ∈ et_W := et_in 116 (by decide +kernel) (by decide +kernel)
theorem fl_C_80 : Cond.fieldLink "EqualTerms$Cheapest" 80 "EqualTerms$Graph" "rights" "[I" ∈ et_W := et_in 117 (by decide +kernel) (by decide +kernel)
theorem fl_R_103 : Cond.fieldLink "EqualTerms$Round" 103 "EqualTerms$Graph" "rights" "[I" ∈ et_W := et_in 118 (by decide +kernel) (by decide +kernel)
theorem fl_G_21 : Cond.fieldLink "EqualTerms$Graph" 21 "EqualTerms$Graph" "homes" "[I" ∈ et_W := et_in 119 (by decide +kernel) (by decide +kernel)
theorem fl_C_58 : Cond.fieldLink "EqualTerms$Cheapest" 58 "EqualTerms$Graph" "homes" "[I" ∈ et_W := et_in 120 (by decide +kernel) (by decide +kernel)
theorem fl_R_56 : Cond.fieldLink "EqualTerms$Round" 56 "EqualTerms$Graph" "homes" "[I" ∈ et_W := et_in 121 (by decide +kernel) (by decide +kernel)
theorem fl_G_24 : Cond.fieldLink "EqualTerms$Graph" 24 "EqualTerms$Graph" "nodeCount" "I" ∈ et_W := et_in 122 (by decide +kernel) (by decide +kernel)
theorem fl_R_33 : Cond.fieldLink "EqualTerms$Round" 33 "EqualTerms$Graph" "nodeCount" "I" ∈ et_W := et_in 123 (by decide +kernel) (by decide +kernel)
theorem fl_C_51 : Cond.fieldLink "EqualTerms$Cheapest" 51 "EqualTerms$Graph" "nodeCount" "I" ∈ et_W := et_in 124 (by decide +kernel) (by decide +kernel)
theorem fl_E_97 : Cond.fieldLink "EqualTerms" 97 "EqualTerms$Graph" "nodeCount" "I" ∈ et_W := et_in 125 (by decide +kernel) (by decide +kernel)
theorem fl_G_28 : Cond.fieldLink "EqualTerms$Graph" 28 "EqualTerms$Graph" "classCount" "I" ∈ et_W := et_in 126 (by decide +kernel) (by decide +kernel)
theorem fl_R_39 : Cond.fieldLink "EqualTerms$Round" 39 "EqualTerms$Graph" "classCount" "I" ∈ et_W := et_in 127 (by decide +kernel) (by decide +kernel)
theorem fl_C_45 : Cond.fieldLink "EqualTerms$Cheapest" 45 "EqualTerms$Graph" "classCount" "I" ∈ et_W := et_in 128 (by decide +kernel) (by decide +kernel)
theorem fl_E_100 : Cond.fieldLink "EqualTerms" 100 "EqualTerms$Graph" "classCount" "I" ∈ et_W := et_in 129 (by decide +kernel) (by decide +kernel)
theorem fl_G_31 : Cond.fieldLink "EqualTerms$Graph" 31 "EqualTerms$Graph" "names" "[I" ∈ et_W := et_in 130 (by decide +kernel) (by decide +kernel)
theorem fl_G_34 : Cond.fieldLink "EqualTerms$Graph" 34 "EqualTerms$Graph" "numbers" "[I" ∈ et_W := et_in 131 (by decide +kernel) (by decide +kernel)
theorem cl_E_23 : Cond.classLink "EqualTerms" 23 "EqualTerms$Walk" ∈ et_W := et_in 149 (by decide +kernel) (by decide +kernel)
theorem ins_K : Cond.instantiable "EqualTerms$Walk" 3 ∈ et_W := et_in 150 (by decide +kernel) (by decide +kernel)
theorem lk_E_25 : et_lk "EqualTerms" 25 (Y_K_init).1 := Or.inl (et_in 151 (by decide +kernel) (by decide +kernel))
theorem lk_K_3 : et_lk "EqualTerms$Walk" 3 (Y_O_init).1 := Or.inl (et_in 154 (by decide +kernel) (by decide +kernel))
theorem fl_K_9 : Cond.fieldLink "EqualTerms$Walk" 9 "EqualTerms$Walk" "variables" "[I" ∈ et_W := et_in 155 (by decide +kernel) (by decide +kernel)
theorem fl_R_81 : Cond.fieldLink "EqualTerms$Round" 81 "EqualTerms$Walk" "variables" "[I" ∈ et_W := et_in 156 (by decide +kernel) (by decide +kernel)
theorem fl_K_18 : Cond.fieldLink "EqualTerms$Walk" 18 "EqualTerms$Walk" "graph" "LEqualTerms$Graph;" ∈ et_W := et_in 157 (by decide +kernel) (by decide +kernel)
theorem fl_K_15 : Cond.fieldLink "EqualTerms$Walk" 15 "EqualTerms$Walk" "stack" "[I" ∈ et_W := et_in 158 (by decide +kernel) (by decide +kernel)
theorem cl_E_32 : Cond.classLink "EqualTerms" 32 "EqualTerms$Round" ∈ et_W := et_in 166 (by decide +kernel) (by decide +kernel)
theorem ins_R : Cond.instantiable "EqualTerms$Round" 6 ∈ et_W := et_in 167 (by decide +kernel) (by decide +kernel)
theorem lk_E_34 : et_lk "EqualTerms" 34 (Y_R_init).1 := Or.inl (et_in 168 (by decide +kernel) (by decide +kernel))
theorem lk_R_3 : et_lk "EqualTerms$Round" 3 (Y_O_init).1 := Or.inl (et_in 171 (by decide +kernel) (by decide +kernel))
theorem fl_R_9 : Cond.fieldLink "EqualTerms$Round" 9 "EqualTerms$Round" "changed" "Z" ∈ et_W := et_in 172 (by decide +kernel) (by decide +kernel)
theorem fl_E_148 : Cond.fieldLink "EqualTerms" 148 "EqualTerms$Round" "changed" "Z" ∈ et_W := et_in 173 (by decide +kernel) (by decide +kernel)
theorem fl_R_25 : Cond.fieldLink "EqualTerms$Round" 25 "EqualTerms$Round" "graph" "LEqualTerms$Graph;" ∈ et_W := et_in 174 (by decide +kernel) (by decide +kernel)
theorem fl_R_29 : Cond.fieldLink "EqualTerms$Round" 29 "EqualTerms$Round" "walk" "LEqualTerms$Walk;" ∈ et_W := et_in 175 (by decide +kernel) (by decide +kernel)
theorem fl_R_15 : Cond.fieldLink "EqualTerms$Round" 15 "EqualTerms$Round" "seats" "[I" ∈ et_W := et_in 176 (by decide +kernel) (by decide +kernel)
theorem fl_R_19 : Cond.fieldLink "EqualTerms$Round" 19 "EqualTerms$Round" "listed" "[I" ∈ et_W := et_in 177 (by decide +kernel) (by decide +kernel)
theorem fl_R_22 : Cond.fieldLink "EqualTerms$Round" 22 "EqualTerms$Round" "begins" "[I" ∈ et_W := et_in 178 (by decide +kernel) (by decide +kernel)
theorem cl_E_41 : Cond.classLink "EqualTerms" 41 "EqualTerms$Cheapest" ∈ et_W := et_in 192 (by decide +kernel) (by decide +kernel)
theorem ins_C : Cond.instantiable "EqualTerms$Cheapest" 6 ∈ et_W := et_in 193 (by decide +kernel) (by decide +kernel)
theorem lk_E_43 : et_lk "EqualTerms" 43 (Y_C_init).1 := Or.inl (et_in 194 (by decide +kernel) (by decide +kernel))
theorem lk_C_3 : et_lk "EqualTerms$Cheapest" 3 (Y_O_init).1 := Or.inl (et_in 197 (by decide +kernel) (by decide +kernel))
theorem cl_C_22 : Cond.classLink "EqualTerms$Cheapest" 22 "[[I" ∈ et_W := et_in 198 (by decide +kernel) (by decide +kernel)
theorem lk_C_34 : et_lk "EqualTerms$Cheapest" 34 (Y_A_fill_II).1 := Or.inl (et_in 200 (by decide +kernel) (by decide +kernel))
theorem fl_C_9 : Cond.fieldLink "EqualTerms$Cheapest" 9 "EqualTerms$Cheapest" "prices" "[I" ∈ et_W := et_in 203 (by decide +kernel) (by decide +kernel)
theorem fl_E_139 : Cond.fieldLink "EqualTerms" 139 "EqualTerms$Cheapest" "prices" "[I" ∈ et_W := et_in 204 (by decide +kernel) (by decide +kernel)
theorem fl_C_15 : Cond.fieldLink "EqualTerms$Cheapest" 15 "EqualTerms$Cheapest" "costs" "[J" ∈ et_W := et_in 205 (by decide +kernel) (by decide +kernel)
theorem fl_E_164 : Cond.fieldLink "EqualTerms" 164 "EqualTerms$Cheapest" "costs" "[J" ∈ et_W := et_in 206 (by decide +kernel) (by decide +kernel)
theorem fl_C_19 : Cond.fieldLink "EqualTerms$Cheapest" 19 "EqualTerms$Cheapest" "lengths" "[J" ∈ et_W := et_in 207 (by decide +kernel) (by decide +kernel)
theorem fl_E_172 : Cond.fieldLink "EqualTerms" 172 "EqualTerms$Cheapest" "lengths" "[J" ∈ et_W := et_in 208 (by decide +kernel) (by decide +kernel)
theorem fl_C_24 : Cond.fieldLink "EqualTerms$Cheapest" 24 "EqualTerms$Cheapest" "terms" "[[I" ∈ et_W := et_in 209 (by decide +kernel) (by decide +kernel)
theorem fl_E_181 : Cond.fieldLink "EqualTerms" 181 "EqualTerms$Cheapest" "terms" "[[I" ∈ et_W := et_in 210 (by decide +kernel) (by decide +kernel)
theorem fl_C_30 : Cond.fieldLink "EqualTerms$Cheapest" 30 "EqualTerms$Cheapest" "graph" "LEqualTerms$Graph;" ∈ et_W := et_in 211 (by decide +kernel) (by decide +kernel)
theorem fl_C_27 : Cond.fieldLink "EqualTerms$Cheapest" 27 "EqualTerms$Cheapest" "trial" "[I" ∈ et_W := et_in 212 (by decide +kernel) (by decide +kernel)
theorem ac_long : Cond.arrayClass .long ∈ et_W := et_in 226 (by decide +kernel) (by decide +kernel)
theorem cl_E_48 : Cond.classLink "EqualTerms" 48 "EqualTerms$Rule" ∈ et_W := et_in 227 (by decide +kernel) (by decide +kernel)
theorem fl_E_10 : Cond.fieldLink "EqualTerms" 10 "EqualTerms" "text" "LEqualTerms$Text;" ∈ et_W := et_in 229 (by decide +kernel) (by decide +kernel)
theorem fl_E_19 : Cond.fieldLink "EqualTerms" 19 "EqualTerms" "graph" "LEqualTerms$Graph;" ∈ et_W := et_in 230 (by decide +kernel) (by decide +kernel)
theorem fl_E_28 : Cond.fieldLink "EqualTerms" 28 "EqualTerms" "walk" "LEqualTerms$Walk;" ∈ et_W := et_in 231 (by decide +kernel) (by decide +kernel)
theorem fl_E_37 : Cond.fieldLink "EqualTerms" 37 "EqualTerms" "round" "LEqualTerms$Round;" ∈ et_W := et_in 232 (by decide +kernel) (by decide +kernel)
theorem fl_E_44 : Cond.fieldLink "EqualTerms" 44 "EqualTerms" "cheapest" "LEqualTerms$Cheapest;" ∈ et_W := et_in 233 (by decide +kernel) (by decide +kernel)
theorem fl_E_50 : Cond.fieldLink "EqualTerms" 50 "EqualTerms" "ruleRow" "[LEqualTerms$Rule;" ∈ et_W := et_in 234 (by decide +kernel) (by decide +kernel)
theorem fl_E_54 : Cond.fieldLink "EqualTerms" 54 "EqualTerms" "ruleCount" "I" ∈ et_W := et_in 235 (by decide +kernel) (by decide +kernel)
theorem lk_L_50 : et_lk "EqualTermsLaw" 50 (Y_E_type).1 := Or.inl (et_in 251 (by decide +kernel) (by decide +kernel))
theorem lk_E_58 : et_lk "EqualTerms" 58 (Y_T_append).1 := Or.inl (et_in 255 (by decide +kernel) (by decide +kernel))
theorem lk_T_25 : et_lk "EqualTerms$Text" 25 (Y_T_byteAt).1 := Or.inl (et_in 259 (by decide +kernel) (by decide +kernel))
theorem kl_T_29 : Cond.constantLong "EqualTerms$Text" 29 255 ∈ et_W := et_in 262 (by decide +kernel) (by decide +kernel)
theorem lk_L_55 : et_lk "EqualTermsLaw" 55 (Y_E_wipe).1 := Or.inl (et_in 263 (by decide +kernel) (by decide +kernel))
theorem lk_E_65 : et_lk "EqualTerms" 65 (Y_T_clear).1 := Or.inl (et_in 267 (by decide +kernel) (by decide +kernel))
theorem lk_L_59 : et_lk "EqualTermsLaw" 59 (Y_E_character).1 := Or.inl (et_in 271 (by decide +kernel) (by decide +kernel))
theorem lk_L_63 : et_lk "EqualTermsLaw" 63 (Y_E_place).1 := Or.inl (et_in 275 (by decide +kernel) (by decide +kernel))
theorem lk_L_93 : et_lk "EqualTermsLaw" 93 (Y_E_nodes).1 := Or.inl (et_in 279 (by decide +kernel) (by decide +kernel))
theorem lk_L_97 : et_lk "EqualTermsLaw" 97 (Y_E_classes).1 := Or.inl (et_in 283 (by decide +kernel) (by decide +kernel))
theorem lk_L_67 : et_lk "EqualTermsLaw" 67 (Y_L_rule).1 := Or.inl (et_in 287 (by decide +kernel) (by decide +kernel))
theorem cl_L_13 : Cond.classLink "EqualTermsLaw" 13 "java/lang/IllegalArgumentException" ∈ et_W := et_in 290 (by decide +kernel) (by decide +kernel)
theorem cl_L_15 : Cond.classLink "EqualTermsLaw" 15 "java/lang/IllegalStateException" ∈ et_W := et_in 291 (by decide +kernel) (by decide +kernel)
theorem lk_L_7 : et_lk "EqualTermsLaw" 7 (Y_E_rule).1 := Or.inl (et_in 292 (by decide +kernel) (by decide +kernel))
theorem lk_E_75 : et_lk "EqualTerms" 75 (Y_T_isRule).1 := Or.inl (et_in 296 (by decide +kernel) (by decide +kernel))
theorem lk_T_37 : et_lk "EqualTerms$Text" 37 (Y_T_firstWrong).1 := Or.inl (et_in 300 (by decide +kernel) (by decide +kernel))
theorem lk_T_45 : et_lk "EqualTerms$Text" 45 (Y_T_partsInRule).1 := Or.inl (et_in 304 (by decide +kernel) (by decide +kernel))
theorem lk_T_54 : et_lk "EqualTerms$Text" 54 (Y_S_isVariable).1 := Or.inl (et_in 308 (by decide +kernel) (by decide +kernel))
theorem lk_T_57 : et_lk "EqualTerms$Text" 57 (Y_T_inFirstSide).1 := Or.inl (et_in 311 (by decide +kernel) (by decide +kernel))
theorem lk_T_60 : et_lk "EqualTerms$Text" 60 (Y_S_partsInPattern).1 := Or.inl (et_in 315 (by decide +kernel) (by decide +kernel))
theorem lk_S_9 : et_lk "EqualTerms$Signs" 9 (Y_S_isVariable).1 := Or.inl (et_in 318 (by decide +kernel) (by decide +kernel))
theorem lk_S_15 : et_lk "EqualTerms$Signs" 15 (Y_S_parts).1 := Or.inl (et_in 319 (by decide +kernel) (by decide +kernel))
theorem lk_T_49 : et_lk "EqualTerms$Text" 49 (Y_S_parts).1 := Or.inl (et_in 322 (by decide +kernel) (by decide +kernel))
theorem lk_T_41 : et_lk "EqualTerms$Text" 41 (Y_T_noteWrong).1 := Or.inl (et_in 323 (by decide +kernel) (by decide +kernel))
theorem cl_E_79 : Cond.classLink "EqualTerms" 79 "java/lang/IllegalArgumentException" ∈ et_W := et_in 327 (by decide +kernel) (by decide +kernel)
theorem ins_IllegalArgumentException : Cond.instantiable "java/lang/IllegalArgumentException" 6 ∈ et_W := et_in 328 (by decide +kernel) (by decide +kernel)
theorem ins_Throwable : Cond.instantiable "java/lang/Throwable" 6 ∈ et_W := et_in 365 (by decide +kernel) (by decide +kernel)
set_option maxRecDepth 100000 in
theorem ml_E_83 : Cond.methodLink "EqualTerms" 83 ⟨"java/lang/IllegalArgumentException", "<init>", "(Ljava/lang/String;)V"⟩ ∈ et_W := et_in 368 (by decide +kernel) (by decide +kernel)
theorem ac_byte : Cond.arrayClass .byte ∈ et_W := et_in 393 (by decide +kernel) (by decide +kernel)
theorem cl_E_86 : Cond.classLink "EqualTerms" 86 "java/lang/IllegalStateException" ∈ et_W := et_in 394 (by decide +kernel) (by decide +kernel)
theorem ins_IllegalStateException : Cond.instantiable "java/lang/IllegalStateException" 6 ∈ et_W := et_in 395 (by decide +kernel) (by decide +kernel)
set_option maxRecDepth 100000 in
theorem ml_E_90 : Cond.methodLink "EqualTerms" 90 ⟨"java/lang/IllegalStateException", "<init>", "(Ljava/lang/String;)V"⟩ ∈ et_W := et_in 404 (by decide +kernel) (by decide +kernel)
theorem ins_U : Cond.instantiable "EqualTerms$Rule" 4 ∈ et_W := et_in 410 (by decide +kernel) (by decide +kernel)
theorem lk_E_91 : et_lk "EqualTerms" 91 (Y_U_init).1 := Or.inl (et_in 411 (by decide +kernel) (by decide +kernel))
theorem lk_U_3 : et_lk "EqualTerms$Rule" 3 (Y_O_init).1 := Or.inl (et_in 414 (by decide +kernel) (by decide +kernel))
theorem lk_U_28 : et_lk "EqualTerms$Rule" 28 (Y_A_copyOf).1 := Or.inl (et_in 415 (by decide +kernel) (by decide +kernel))
set_option maxRecDepth 100000 in
theorem ml_A_316 : Cond.methodLink "java/util/Arrays" 316 ⟨"[I", "clone", "()Ljava/lang/Object;"⟩ ∈ et_W := et_in 418 (by decide +kernel) (by decide +kernel)
theorem cl_A_317 : Cond.classLink "java/util/Arrays" 317 "[I" ∈ et_W := et_in 424 (by decide +kernel) (by decide +kernel)
theorem lk_A_304 : et_lk "java/util/Arrays" 304 (Y_H_min).1 := Or.inl (et_in 425 (by decide +kernel) (by decide +kernel))
set_option maxRecDepth 100000 in
theorem ml_A_150 : Cond.methodLink "java/util/Arrays" 150 ⟨"java/lang/System", "arraycopy", "(Ljava/lang/Object;ILjava/lang/Object;II)V"⟩ ∈ et_W := et_in 428 (by decide +kernel) (by decide +kernel)
theorem lk_U_39 : et_lk "EqualTerms$Rule" 39 (Y_S_isVariable).1 := Or.inl (et_in 431 (by decide +kernel) (by decide +kernel))
theorem lk_U_45 : et_lk "EqualTerms$Rule" 45 (Y_S_parts).1 := Or.inl (et_in 432 (by decide +kernel) (by decide +kernel))
theorem lk_U_49 : et_lk "EqualTerms$Rule" 49 (Y_U_endOfPattern).1 := Or.inl (et_in 433 (by decide +kernel) (by decide +kernel))
theorem lk_U_53 : et_lk "EqualTerms$Rule" 53 (Y_S_partsInPattern).1 := Or.inl (et_in 436 (by decide +kernel) (by decide +kernel))
theorem fl_U_34 : Cond.fieldLink "EqualTerms$Rule" 34 "EqualTerms$Rule" "characters" "[I" ∈ et_W := et_in 437 (by decide +kernel) (by decide +kernel)
theorem fl_R_68 : Cond.fieldLink "EqualTerms$Round" 68 "EqualTerms$Rule" "characters" "[I" ∈ et_W := et_in 438 (by decide +kernel) (by decide +kernel)
theorem fl_U_38 : Cond.fieldLink "EqualTerms$Rule" 38 "EqualTerms$Rule" "middle" "I" ∈ et_W := et_in 439 (by decide +kernel) (by decide +kernel)
theorem fl_R_59 : Cond.fieldLink "EqualTerms$Round" 59 "EqualTerms$Rule" "middle" "I" ∈ et_W := et_in 440 (by decide +kernel) (by decide +kernel)
theorem fl_U_9 : Cond.fieldLink "EqualTerms$Rule" 9 "EqualTerms$Rule" "secondPart" "[I" ∈ et_W := et_in 441 (by decide +kernel) (by decide +kernel)
theorem fl_R_100 : Cond.fieldLink "EqualTerms$Round" 100 "EqualTerms$Rule" "secondPart" "[I" ∈ et_W := et_in 442 (by decide +kernel) (by decide +kernel)
theorem fl_U_15 : Cond.fieldLink "EqualTerms$Rule" 15 "EqualTerms$Rule" "binds" "[Z" ∈ et_W := et_in 443 (by decide +kernel) (by decide +kernel)
theorem fl_R_77 : Cond.fieldLink "EqualTerms$Round" 77 "EqualTerms$Rule" "binds" "[Z" ∈ et_W := et_in 444 (by decide +kernel) (by decide +kernel)
theorem ac_boolean : Cond.arrayClass .boolean ∈ et_W := et_in 454 (by decide +kernel) (by decide +kernel)
theorem lk_L_76 : et_lk "EqualTermsLaw" 76 (Y_L_add).1 := Or.inl (et_in 455 (by decide +kernel) (by decide +kernel))
theorem lk_L_17 : et_lk "EqualTermsLaw" 17 (Y_E_add).1 := Or.inl (et_in 458 (by decide +kernel) (by decide +kernel))
theorem lk_E_94 : et_lk "EqualTerms" 94 (Y_E_demandTerm).1 := Or.inl (et_in 462 (by decide +kernel) (by decide +kernel))
theorem lk_E_189 : et_lk "EqualTerms" 189 (Y_T_isTerm).1 := Or.inl (et_in 466 (by decide +kernel) (by decide +kernel))
theorem lk_E_103 : et_lk "EqualTerms" 103 (Y_K_classOf).1 := Or.inl (et_in 471 (by decide +kernel) (by decide +kernel))
theorem lk_K_22 : et_lk "EqualTerms$Walk" 22 (Y_S_partsInPattern).1 := Or.inl (et_in 475 (by decide +kernel) (by decide +kernel))
theorem lk_K_28 : et_lk "EqualTerms$Walk" 28 (Y_S_isVariable).1 := Or.inl (et_in 476 (by decide +kernel) (by decide +kernel))
theorem lk_K_32 : et_lk "EqualTerms$Walk" 32 (Y_G_homeOf).1 := Or.inl (et_in 477 (by decide +kernel) (by decide +kernel))
theorem lk_G_37 : et_lk "EqualTerms$Graph" 37 (Y_G_nodeAmong).1 := Or.inl (et_in 481 (by decide +kernel) (by decide +kernel))
theorem lk_G_41 : et_lk "EqualTerms$Graph" 41 (Y_G_putNode).1 := Or.inl (et_in 485 (by decide +kernel) (by decide +kernel))
theorem lk_E_107 : et_lk "EqualTerms" 107 (Y_G_goBack).1 := Or.inl (et_in 489 (by decide +kernel) (by decide +kernel))
theorem lk_G_45 : et_lk "EqualTerms$Graph" 45 (Y_G_nameAllByNumber).1 := Or.inl (et_in 493 (by decide +kernel) (by decide +kernel))
theorem lk_L_79 : et_lk "EqualTermsLaw" 79 (Y_L_unite).1 := Or.inl (et_in 498 (by decide +kernel) (by decide +kernel))
theorem lk_L_20 : et_lk "EqualTermsLaw" 20 (Y_E_unite).1 := Or.inl (et_in 501 (by decide +kernel) (by decide +kernel))
theorem lk_E_113 : et_lk "EqualTerms" 113 (Y_E_demandEquation).1 := Or.inl (et_in 505 (by decide +kernel) (by decide +kernel))
theorem lk_E_194 : et_lk "EqualTerms" 194 (Y_T_isEquation).1 := Or.inl (et_in 509 (by decide +kernel) (by decide +kernel))
theorem lk_E_121 : et_lk "EqualTerms" 121 (Y_G_join).1 := Or.inl (et_in 515 (by decide +kernel) (by decide +kernel))
theorem lk_E_125 : et_lk "EqualTerms" 125 (Y_G_settle).1 := Or.inl (et_in 519 (by decide +kernel) (by decide +kernel))
theorem lk_G_48 : et_lk "EqualTerms$Graph" 48 (Y_G_rename).1 := Or.inl (et_in 523 (by decide +kernel) (by decide +kernel))
theorem lk_G_51 : et_lk "EqualTerms$Graph" 51 (Y_G_mergeTwins).1 := Or.inl (et_in 527 (by decide +kernel) (by decide +kernel))
theorem lk_G_58 : et_lk "EqualTerms$Graph" 58 (Y_G_join).1 := Or.inl (et_in 531 (by decide +kernel) (by decide +kernel))
theorem lk_G_55 : et_lk "EqualTerms$Graph" 55 (Y_G_renumber).1 := Or.inl (et_in 532 (by decide +kernel) (by decide +kernel))
theorem lk_G_62 : et_lk "EqualTerms$Graph" 62 (Y_A_fill_II).1 := Or.inl (et_in 536 (by decide +kernel) (by decide +kernel))
set_option maxRecDepth 100000 in
theorem ml_G_68 : Cond.methodLink "EqualTerms$Graph" 68 ⟨"java/lang/System", "arraycopy", "(Ljava/lang/Object;ILjava/lang/Object;II)V"⟩ ∈ et_W := et_in 537 (by decide +kernel) (by decide +kernel)
theorem lk_L_82 : et_lk "EqualTermsLaw" 82 (Y_L_same).1 := Or.inl (et_in 538 (by decide +kernel) (by decide +kernel))
theorem lk_L_23 : et_lk "EqualTermsLaw" 23 (Y_E_same).1 := Or.inl (et_in 541 (by decide +kernel) (by decide +kernel))
theorem lk_L_85 : et_lk "EqualTermsLaw" 85 (Y_L_price).1 := Or.inl (et_in 545 (by decide +kernel) (by decide +kernel))
theorem lk_L_26 : et_lk "EqualTermsLaw" 26 (Y_E_price).1 := Or.inl (et_in 548 (by decide +kernel) (by decide +kernel))
theorem lk_E_128 : et_lk "EqualTerms" 128 (Y_S_parts).1 := Or.inl (et_in 552 (by decide +kernel) (by decide +kernel))
theorem kc_E_136 : Cond.constant "EqualTerms" 136 1000000000 ∈ et_W := et_in 554 (by decide +kernel) (by decide +kernel)
theorem lk_L_89 : et_lk "EqualTermsLaw" 89 (Y_L_rounds).1 := Or.inl (et_in 556 (by decide +kernel) (by decide +kernel))
theorem lk_L_30 : et_lk "EqualTermsLaw" 30 (Y_E_rounds).1 := Or.inl (et_in 559 (by decide +kernel) (by decide +kernel))
theorem lk_E_144 : et_lk "EqualTerms" 144 (Y_R_fitAll).1 := Or.inl (et_in 564 (by decide +kernel) (by decide +kernel))
theorem lk_R_42 : et_lk "EqualTerms$Round" 42 (Y_R_listNodes).1 := Or.inl (et_in 568 (by decide +kernel) (by decide +kernel))
theorem lk_R_45 : et_lk "EqualTerms$Round" 45 (Y_R_fitFrom).1 := Or.inl (et_in 572 (by decide +kernel) (by decide +kernel))
theorem lk_R_64 : et_lk "EqualTerms$Round" 64 (Y_R_joinSides).1 := Or.inl (et_in 576 (by decide +kernel) (by decide +kernel))
theorem lk_R_106 : et_lk "EqualTerms$Round" 106 (Y_K_classOf).1 := Or.inl (et_in 580 (by decide +kernel) (by decide +kernel))
theorem lk_R_110 : et_lk "EqualTerms$Round" 110 (Y_G_join).1 := Or.inl (et_in 581 (by decide +kernel) (by decide +kernel))
theorem lk_R_71 : et_lk "EqualTerms$Round" 71 (Y_S_isVariable).1 := Or.inl (et_in 582 (by decide +kernel) (by decide +kernel))
theorem lk_R_89 : et_lk "EqualTerms$Round" 89 (Y_R_seatParts).1 := Or.inl (et_in 583 (by decide +kernel) (by decide +kernel))
theorem lk_R_93 : et_lk "EqualTerms$Round" 93 (Y_S_parts).1 := Or.inl (et_in 587 (by decide +kernel) (by decide +kernel))
theorem lk_R_49 : et_lk "EqualTerms$Round" 49 (Y_G_goBack).1 := Or.inl (et_in 588 (by decide +kernel) (by decide +kernel))
theorem lk_R_53 : et_lk "EqualTerms$Round" 53 (Y_G_settle).1 := Or.inl (et_in 589 (by decide +kernel) (by decide +kernel))
theorem lk_L_101 : et_lk "EqualTermsLaw" 101 (Y_L_members).1 := Or.inl (et_in 590 (by decide +kernel) (by decide +kernel))
theorem lk_L_34 : et_lk "EqualTermsLaw" 34 (Y_E_members).1 := Or.inl (et_in 593 (by decide +kernel) (by decide +kernel))
theorem lk_E_152 : et_lk "EqualTerms" 152 (Y_E_takeTerm).1 := Or.inl (et_in 597 (by decide +kernel) (by decide +kernel))
theorem lk_E_156 : et_lk "EqualTerms" 156 (Y_G_sizeOf).1 := Or.inl (et_in 601 (by decide +kernel) (by decide +kernel))
theorem lk_L_104 : et_lk "EqualTermsLaw" 104 (Y_L_cost).1 := Or.inl (et_in 605 (by decide +kernel) (by decide +kernel))
theorem lk_L_37 : et_lk "EqualTermsLaw" 37 (Y_E_cost).1 := Or.inl (et_in 608 (by decide +kernel) (by decide +kernel))
theorem kl_E_159 : Cond.constantLong "EqualTerms" 159 (-1) ∈ et_W := et_in 612 (by decide +kernel) (by decide +kernel)
theorem lk_E_161 : et_lk "EqualTerms" 161 (Y_C_weigh).1 := Or.inl (et_in 613 (by decide +kernel) (by decide +kernel))
theorem kl_C_40 : Cond.constantLong "EqualTerms$Cheapest" 40 4611686018427387905 ∈ et_W := et_in 617 (by decide +kernel) (by decide +kernel)
theorem lk_C_42 : et_lk "EqualTerms$Cheapest" 42 (Y_A_fill_JJ).1 := Or.inl (et_in 618 (by decide +kernel) (by decide +kernel))
theorem lk_C_54 : et_lk "EqualTerms$Cheapest" 54 (Y_C_weighNode).1 := Or.inl (et_in 621 (by decide +kernel) (by decide +kernel))
theorem lk_C_61 : et_lk "EqualTerms$Cheapest" 61 (Y_C_costThrough).1 := Or.inl (et_in 625 (by decide +kernel) (by decide +kernel))
theorem lk_C_76 : et_lk "EqualTerms$Cheapest" 76 (Y_C_sum).1 := Or.inl (et_in 629 (by decide +kernel) (by decide +kernel))
theorem kl_C_65 : Cond.constantLong "EqualTerms$Cheapest" 65 4611686018427387904 ∈ et_W := et_in 632 (by decide +kernel) (by decide +kernel)
theorem lk_C_67 : et_lk "EqualTerms$Cheapest" 67 (Y_C_lengthThrough).1 := Or.inl (et_in 633 (by decide +kernel) (by decide +kernel))
theorem kl_E_168 : Cond.constantLong "EqualTerms" 168 4611686018427387904 ∈ et_W := et_in 637 (by decide +kernel) (by decide +kernel)
theorem kl_E_170 : Cond.constantLong "EqualTerms" 170 (-3) ∈ et_W := et_in 638 (by decide +kernel) (by decide +kernel)
theorem lk_L_107 : et_lk "EqualTermsLaw" 107 (Y_L_best).1 := Or.inl (et_in 639 (by decide +kernel) (by decide +kernel))
theorem lk_L_41 : et_lk "EqualTermsLaw" 41 (Y_E_best).1 := Or.inl (et_in 642 (by decide +kernel) (by decide +kernel))
theorem kl_E_175 : Cond.constantLong "EqualTerms" 175 60 ∈ et_W := et_in 646 (by decide +kernel) (by decide +kernel)
theorem lk_E_177 : et_lk "EqualTerms" 177 (Y_C_spell).1 := Or.inl (et_in 647 (by decide +kernel) (by decide +kernel))
theorem lk_C_83 : et_lk "EqualTerms$Cheapest" 83 (Y_C_isBest).1 := Or.inl (et_in 651 (by decide +kernel) (by decide +kernel))
theorem lk_C_86 : et_lk "EqualTerms$Cheapest" 86 (Y_C_spellNode).1 := Or.inl (et_in 655 (by decide +kernel) (by decide +kernel))
theorem lk_C_90 : et_lk "EqualTerms$Cheapest" 90 (Y_C_appendTerm).1 := Or.inl (et_in 659 (by decide +kernel) (by decide +kernel))
set_option maxRecDepth 100000 in
theorem ml_C_98 : Cond.methodLink "EqualTerms$Cheapest" 98 ⟨"java/lang/System", "arraycopy", "(Ljava/lang/Object;ILjava/lang/Object;II)V"⟩ ∈ et_W := et_in 663 (by decide +kernel) (by decide +kernel)
theorem lk_C_94 : et_lk "EqualTerms$Cheapest" 94 (Y_C_trialComesBefore).1 := Or.inl (et_in 664 (by decide +kernel) (by decide +kernel))
theorem lk_E_185 : et_lk "EqualTerms" 185 (Y_T_become).1 := Or.inl (et_in 668 (by decide +kernel) (by decide +kernel))
set_option maxRecDepth 100000 in
theorem ml_T_31 : Cond.methodLink "EqualTerms$Text" 31 ⟨"java/lang/System", "arraycopy", "(Ljava/lang/Object;ILjava/lang/Object;II)V"⟩ ∈ et_W := et_in 672 (by decide +kernel) (by decide +kernel)
theorem cl_L_45 : Cond.classLink "EqualTermsLaw" 45 "EqualTermsModel" ∈ et_W := et_in 673 (by decide +kernel) (by decide +kernel)
theorem ins_M : Cond.instantiable "EqualTermsModel" 33 ∈ et_W := et_in 674 (by decide +kernel) (by decide +kernel)
theorem lk_L_47 : et_lk "EqualTermsLaw" 47 (Y_M_init).1 := Or.inl (et_in 675 (by decide +kernel) (by decide +kernel))
theorem lk_M_1 : et_lk "EqualTermsModel" 1 (Y_O_init).1 := Or.inl (et_in 678 (by decide +kernel) (by decide +kernel))
theorem fl_M_72 : Cond.fieldLink "EqualTermsModel" 72 "EqualTermsModel" "thrown" "I" ∈ et_W := et_in 679 (by decide +kernel) (by decide +kernel)
theorem fl_M_7 : Cond.fieldLink "EqualTermsModel" 7 "EqualTermsModel" "text" "[I" ∈ et_W := et_in 680 (by decide +kernel) (by decide +kernel)
theorem fl_M_79 : Cond.fieldLink "EqualTermsModel" 79 "EqualTermsModel" "length" "I" ∈ et_W := et_in 681 (by decide +kernel) (by decide +kernel)
theorem fl_M_88 : Cond.fieldLink "EqualTermsModel" 88 "EqualTermsModel" "at" "I" ∈ et_W := et_in 682 (by decide +kernel) (by decide +kernel)
theorem fl_M_13 : Cond.fieldLink "EqualTermsModel" 13 "EqualTermsModel" "wrong" "I" ∈ et_W := et_in 683 (by decide +kernel) (by decide +kernel)
theorem fl_M_91 : Cond.fieldLink "EqualTermsModel" 91 "EqualTermsModel" "end" "I" ∈ et_W := et_in 684 (by decide +kernel) (by decide +kernel)
theorem fl_M_102 : Cond.fieldLink "EqualTermsModel" 102 "EqualTermsModel" "seen" "I" ∈ et_W := et_in 685 (by decide +kernel) (by decide +kernel)
theorem fl_M_113 : Cond.fieldLink "EqualTermsModel" 113 "EqualTermsModel" "rules" "I" ∈ et_W := et_in 686 (by decide +kernel) (by decide +kernel)
theorem fl_M_17 : Cond.fieldLink "EqualTermsModel" 17 "EqualTermsModel" "sides" "[I" ∈ et_W := et_in 687 (by decide +kernel) (by decide +kernel)
theorem fl_M_20 : Cond.fieldLink "EqualTermsModel" 20 "EqualTermsModel" "sizes" "[I" ∈ et_W := et_in 688 (by decide +kernel) (by decide +kernel)
theorem fl_M_119 : Cond.fieldLink "EqualTermsModel" 119 "EqualTermsModel" "nodes" "I" ∈ et_W := et_in 689 (by decide +kernel) (by decide +kernel)
theorem fl_M_126 : Cond.fieldLink "EqualTermsModel" 126 "EqualTermsModel" "classes" "I" ∈ et_W := et_in 690 (by decide +kernel) (by decide +kernel)
theorem fl_M_23 : Cond.fieldLink "EqualTermsModel" 23 "EqualTermsModel" "sign" "[I" ∈ et_W := et_in 691 (by decide +kernel) (by decide +kernel)
theorem fl_M_26 : Cond.fieldLink "EqualTermsModel" 26 "EqualTermsModel" "first" "[I" ∈ et_W := et_in 692 (by decide +kernel) (by decide +kernel)
theorem fl_M_29 : Cond.fieldLink "EqualTermsModel" 29 "EqualTermsModel" "second" "[I" ∈ et_W := et_in 693 (by decide +kernel) (by decide +kernel)
theorem fl_M_32 : Cond.fieldLink "EqualTermsModel" 32 "EqualTermsModel" "owner" "[I" ∈ et_W := et_in 694 (by decide +kernel) (by decide +kernel)
theorem fl_M_35 : Cond.fieldLink "EqualTermsModel" 35 "EqualTermsModel" "label" "[I" ∈ et_W := et_in 695 (by decide +kernel) (by decide +kernel)
theorem fl_M_38 : Cond.fieldLink "EqualTermsModel" 38 "EqualTermsModel" "renamed" "[I" ∈ et_W := et_in 696 (by decide +kernel) (by decide +kernel)
theorem fl_M_139 : Cond.fieldLink "EqualTermsModel" 139 "EqualTermsModel" "united" "Z" ∈ et_W := et_in 697 (by decide +kernel) (by decide +kernel)
theorem fl_M_41 : Cond.fieldLink "EqualTermsModel" 41 "EqualTermsModel" "row" "[I" ∈ et_W := et_in 698 (by decide +kernel) (by decide +kernel)
theorem fl_M_129 : Cond.fieldLink "EqualTermsModel" 129 "EqualTermsModel" "rowSize" "I" ∈ et_W := et_in 699 (by decide +kernel) (by decide +kernel)
theorem fl_M_44 : Cond.fieldLink "EqualTermsModel" 44 "EqualTermsModel" "variable" "[I" ∈ et_W := et_in 700 (by decide +kernel) (by decide +kernel)
theorem fl_M_47 : Cond.fieldLink "EqualTermsModel" 47 "EqualTermsModel" "leaf" "[I" ∈ et_W := et_in 701 (by decide +kernel) (by decide +kernel)
theorem fl_M_50 : Cond.fieldLink "EqualTermsModel" 50 "EqualTermsModel" "unary" "[I" ∈ et_W := et_in 702 (by decide +kernel) (by decide +kernel)
theorem fl_M_53 : Cond.fieldLink "EqualTermsModel" 53 "EqualTermsModel" "binary" "[I" ∈ et_W := et_in 703 (by decide +kernel) (by decide +kernel)
theorem fl_M_56 : Cond.fieldLink "EqualTermsModel" 56 "EqualTermsModel" "prices" "[I" ∈ et_W := et_in 704 (by decide +kernel) (by decide +kernel)
theorem fl_M_59 : Cond.fieldLink "EqualTermsModel" 59 "EqualTermsModel" "cost" "[J" ∈ et_W := et_in 705 (by decide +kernel) (by decide +kernel)
theorem fl_M_63 : Cond.fieldLink "EqualTermsModel" 63 "EqualTermsModel" "size" "[J" ∈ et_W := et_in 706 (by decide +kernel) (by decide +kernel)
theorem fl_M_66 : Cond.fieldLink "EqualTermsModel" 66 "EqualTermsModel" "best" "[I" ∈ et_W := et_in 707 (by decide +kernel) (by decide +kernel)
theorem fl_M_69 : Cond.fieldLink "EqualTermsModel" 69 "EqualTermsModel" "draft" "[I" ∈ et_W := et_in 708 (by decide +kernel) (by decide +kernel)
theorem fl_M_203 : Cond.fieldLink "EqualTermsModel" 203 "EqualTermsModel" "draftCost" "J" ∈ et_W := et_in 709 (by decide +kernel) (by decide +kernel)
theorem fl_M_211 : Cond.fieldLink "EqualTermsModel" 211 "EqualTermsModel" "draftSize" "J" ∈ et_W := et_in 710 (by decide +kernel) (by decide +kernel)
theorem lk_L_73 : et_lk "EqualTermsLaw" 73 (Y_M_thrown).1 := Or.inl (et_in 778 (by decide +kernel) (by decide +kernel))
theorem lk_L_54 : et_lk "EqualTermsLaw" 54 (Y_M_type).1 := Or.inl (et_in 782 (by decide +kernel) (by decide +kernel))
theorem lk_M_75 : et_lk "EqualTermsModel" 75 (Y_M_within).1 := Or.inl (et_in 786 (by decide +kernel) (by decide +kernel))
theorem kl_M_82 : Cond.constantLong "EqualTermsModel" 82 255 ∈ et_W := et_in 789 (by decide +kernel) (by decide +kernel)
theorem kl_M_84 : Cond.constantLong "EqualTermsModel" 84 33 ∈ et_W := et_in 790 (by decide +kernel) (by decide +kernel)
theorem kl_M_86 : Cond.constantLong "EqualTermsModel" 86 126 ∈ et_W := et_in 791 (by decide +kernel) (by decide +kernel)
theorem lk_L_58 : et_lk "EqualTermsLaw" 58 (Y_M_wipe).1 := Or.inl (et_in 792 (by decide +kernel) (by decide +kernel))
theorem lk_L_62 : et_lk "EqualTermsLaw" 62 (Y_M_character).1 := Or.inl (et_in 796 (by decide +kernel) (by decide +kernel))
theorem lk_L_66 : et_lk "EqualTermsLaw" 66 (Y_M_place).1 := Or.inl (et_in 800 (by decide +kernel) (by decide +kernel))
theorem lk_L_72 : et_lk "EqualTermsLaw" 72 (Y_M_rule).1 := Or.inl (et_in 804 (by decide +kernel) (by decide +kernel))
theorem lk_M_109 : et_lk "EqualTermsModel" 109 (Y_M_readBoth).1 := Or.inl (et_in 808 (by decide +kernel) (by decide +kernel))
theorem lk_M_105 : et_lk "EqualTermsModel" 105 (Y_M_readSide).1 := Or.inl (et_in 812 (by decide +kernel) (by decide +kernel))
theorem lk_M_94 : et_lk "EqualTermsModel" 94 (Y_M_fail).1 := Or.inl (et_in 816 (by decide +kernel) (by decide +kernel))
theorem lk_M_98 : et_lk "EqualTermsModel" 98 (Y_M_takes).1 := Or.inl (et_in 820 (by decide +kernel) (by decide +kernel))
theorem lk_M_116 : et_lk "EqualTermsModel" 116 (Y_M_refuse).1 := Or.inl (et_in 823 (by decide +kernel) (by decide +kernel))
theorem lk_L_78 : et_lk "EqualTermsLaw" 78 (Y_M_add).1 := Or.inl (et_in 827 (by decide +kernel) (by decide +kernel))
theorem lk_M_157 : et_lk "EqualTermsModel" 157 (Y_M_readTerm).1 := Or.inl (et_in 831 (by decide +kernel) (by decide +kernel))
theorem lk_M_160 : et_lk "EqualTermsModel" 160 (Y_M_workText).1 := Or.inl (et_in 835 (by decide +kernel) (by decide +kernel))
theorem lk_M_136 : et_lk "EqualTermsModel" 136 (Y_M_push).1 := Or.inl (et_in 839 (by decide +kernel) (by decide +kernel))
theorem lk_M_132 : et_lk "EqualTermsModel" 132 (Y_M_classOf).1 := Or.inl (et_in 843 (by decide +kernel) (by decide +kernel))
theorem lk_M_122 : et_lk "EqualTermsModel" 122 (Y_M_findNode).1 := Or.inl (et_in 847 (by decide +kernel) (by decide +kernel))
theorem lk_M_163 : et_lk "EqualTermsModel" 163 (Y_M_cut).1 := Or.inl (et_in 851 (by decide +kernel) (by decide +kernel))
theorem lk_L_81 : et_lk "EqualTermsLaw" 81 (Y_M_unite).1 := Or.inl (et_in 855 (by decide +kernel) (by decide +kernel))
theorem lk_M_146 : et_lk "EqualTermsModel" 146 (Y_M_joinClasses).1 := Or.inl (et_in 859 (by decide +kernel) (by decide +kernel))
theorem lk_M_166 : et_lk "EqualTermsModel" 166 (Y_M_close).1 := Or.inl (et_in 863 (by decide +kernel) (by decide +kernel))
theorem lk_M_143 : et_lk "EqualTermsModel" 143 (Y_M_labelOf).1 := Or.inl (et_in 867 (by decide +kernel) (by decide +kernel))
theorem lk_M_150 : et_lk "EqualTermsModel" 150 (Y_M_removeNode).1 := Or.inl (et_in 871 (by decide +kernel) (by decide +kernel))
theorem lk_M_154 : et_lk "EqualTermsModel" 154 (Y_M_renumber).1 := Or.inl (et_in 875 (by decide +kernel) (by decide +kernel))
theorem lk_L_84 : et_lk "EqualTermsLaw" 84 (Y_M_same).1 := Or.inl (et_in 879 (by decide +kernel) (by decide +kernel))
theorem lk_L_88 : et_lk "EqualTermsLaw" 88 (Y_M_price).1 := Or.inl (et_in 883 (by decide +kernel) (by decide +kernel))
theorem kc_M_169 : Cond.constant "EqualTermsModel" 169 1000000000 ∈ et_W := et_in 887 (by decide +kernel) (by decide +kernel)
theorem lk_L_92 : et_lk "EqualTermsLaw" 92 (Y_M_rounds).1 := Or.inl (et_in 888 (by decide +kernel) (by decide +kernel))
theorem lk_M_192 : et_lk "EqualTermsModel" 192 (Y_M_oneRound).1 := Or.inl (et_in 892 (by decide +kernel) (by decide +kernel))
theorem lk_M_186 : et_lk "EqualTermsModel" 186 (Y_M_fillTables).1 := Or.inl (et_in 896 (by decide +kernel) (by decide +kernel))
theorem lk_M_170 : et_lk "EqualTermsModel" 170 (Y_M_kindOf).1 := Or.inl (et_in 900 (by decide +kernel) (by decide +kernel))
theorem lk_M_189 : et_lk "EqualTermsModel" 189 (Y_M_fit).1 := Or.inl (et_in 903 (by decide +kernel) (by decide +kernel))
theorem lk_M_173 : et_lk "EqualTermsModel" 173 (Y_M_variablesOf).1 := Or.inl (et_in 907 (by decide +kernel) (by decide +kernel))
theorem lk_M_176 : et_lk "EqualTermsModel" 176 (Y_M_tabled).1 := Or.inl (et_in 911 (by decide +kernel) (by decide +kernel))
theorem lk_M_179 : et_lk "EqualTermsModel" 179 (Y_M_workSide).1 := Or.inl (et_in 915 (by decide +kernel) (by decide +kernel))
theorem lk_M_183 : et_lk "EqualTermsModel" 183 (Y_M_nextChoice).1 := Or.inl (et_in 919 (by decide +kernel) (by decide +kernel))
theorem lk_L_96 : et_lk "EqualTermsLaw" 96 (Y_M_nodes).1 := Or.inl (et_in 923 (by decide +kernel) (by decide +kernel))
theorem lk_L_100 : et_lk "EqualTermsLaw" 100 (Y_M_classes).1 := Or.inl (et_in 927 (by decide +kernel) (by decide +kernel))
theorem lk_L_103 : et_lk "EqualTermsLaw" 103 (Y_M_members).1 := Or.inl (et_in 931 (by decide +kernel) (by decide +kernel))
theorem lk_M_196 : et_lk "EqualTermsModel" 196 (Y_M_asked).1 := Or.inl (et_in 935 (by decide +kernel) (by decide +kernel))
theorem lk_L_106 : et_lk "EqualTermsLaw" 106 (Y_M_cost).1 := Or.inl (et_in 939 (by decide +kernel) (by decide +kernel))
theorem kl_M_223 : Cond.constantLong "EqualTermsModel" 223 (-1) ∈ et_W := et_in 943 (by decide +kernel) (by decide +kernel)
theorem lk_M_225 : et_lk "EqualTermsModel" 225 (Y_M_findBest).1 := Or.inl (et_in 944 (by decide +kernel) (by decide +kernel))
theorem kl_M_201 : Cond.constantLong "EqualTermsModel" 201 4611686018427387905 ∈ et_W := et_in 948 (by decide +kernel) (by decide +kernel)
theorem lk_M_216 : et_lk "EqualTermsModel" 216 (Y_M_append).1 := Or.inl (et_in 949 (by decide +kernel) (by decide +kernel))
theorem lk_M_207 : et_lk "EqualTermsModel" 207 (Y_M_sum).1 := Or.inl (et_in 953 (by decide +kernel) (by decide +kernel))
theorem kl_M_199 : Cond.constantLong "EqualTermsModel" 199 4611686018427387904 ∈ et_W := et_in 956 (by decide +kernel) (by decide +kernel)
theorem kl_M_214 : Cond.constantLong "EqualTermsModel" 214 60 ∈ et_W := et_in 957 (by decide +kernel) (by decide +kernel)
theorem lk_M_219 : et_lk "EqualTermsModel" 219 (Y_M_isBetter).1 := Or.inl (et_in 958 (by decide +kernel) (by decide +kernel))
theorem kl_M_228 : Cond.constantLong "EqualTermsModel" 228 (-3) ∈ et_W := et_in 962 (by decide +kernel) (by decide +kernel)
theorem lk_L_109 : et_lk "EqualTermsLaw" 109 (Y_M_best).1 := Or.inl (et_in 963 (by decide +kernel) (by decide +kernel))
theorem kl_L_48 : Cond.constantLong "EqualTermsLaw" 48 4294967295 ∈ et_W := et_in 967 (by decide +kernel) (by decide +kernel)
theorem len_E_init : (parseMethodDescriptor (Y_E_init).1.desc).map (fun d => d.parameters.length) = some 0 := by decide +kernel
theorem len_O_init : (parseMethodDescriptor (Y_O_init).1.desc).map (fun d => d.parameters.length) = some 0 := by decide +kernel
theorem len_T_init : (parseMethodDescriptor (Y_T_init).1.desc).map (fun d => d.parameters.length) = some 0 := by decide +kernel
theorem len_G_init : (parseMethodDescriptor (Y_G_init).1.desc).map (fun d => d.parameters.length) = some 0 := by decide +kernel
theorem len_K_init : (parseMethodDescriptor (Y_K_init).1.desc).map (fun d => d.parameters.length) = some 1 := by decide +kernel
theorem len_R_init : (parseMethodDescriptor (Y_R_init).1.desc).map (fun d => d.parameters.length) = some 2 := by decide +kernel
theorem len_C_init : (parseMethodDescriptor (Y_C_init).1.desc).map (fun d => d.parameters.length) = some 1 := by decide +kernel
theorem len_A_fill_II : (parseMethodDescriptor (Y_A_fill_II).1.desc).map (fun d => d.parameters.length) = some 2 := by decide +kernel
theorem len_E_type : (parseMethodDescriptor (Y_E_type).1.desc).map (fun d => d.parameters.length) = some 2 := by decide +kernel
theorem len_T_append : (parseMethodDescriptor (Y_T_append).1.desc).map (fun d => d.parameters.length) = some 2 := by decide +kernel
theorem len_T_byteAt : (parseMethodDescriptor (Y_T_byteAt).1.desc).map (fun d => d.parameters.length) = some 2 := by decide +kernel
theorem len_E_wipe : (parseMethodDescriptor (Y_E_wipe).1.desc).map (fun d => d.parameters.length) = some 0 := by decide +kernel
theorem len_T_clear : (parseMethodDescriptor (Y_T_clear).1.desc).map (fun d => d.parameters.length) = some 0 := by decide +kernel
theorem len_E_character : (parseMethodDescriptor (Y_E_character).1.desc).map (fun d => d.parameters.length) = some 1 := by decide +kernel
theorem len_E_place : (parseMethodDescriptor (Y_E_place).1.desc).map (fun d => d.parameters.length) = some 0 := by decide +kernel
theorem len_E_nodes : (parseMethodDescriptor (Y_E_nodes).1.desc).map (fun d => d.parameters.length) = some 0 := by decide +kernel
theorem len_E_classes : (parseMethodDescriptor (Y_E_classes).1.desc).map (fun d => d.parameters.length) = some 0 := by decide +kernel
theorem len_L_rule : (parseMethodDescriptor (Y_L_rule).1.desc).map (fun d => d.parameters.length) = some 2 := by decide +kernel
theorem len_E_rule : (parseMethodDescriptor (Y_E_rule).1.desc).map (fun d => d.parameters.length) = some 0 := by decide +kernel
theorem len_T_isRule : (parseMethodDescriptor (Y_T_isRule).1.desc).map (fun d => d.parameters.length) = some 0 := by decide +kernel
theorem len_T_firstWrong : (parseMethodDescriptor (Y_T_firstWrong).1.desc).map (fun d => d.parameters.length) = some 2 := by decide +kernel
theorem len_T_partsInRule : (parseMethodDescriptor (Y_T_partsInRule).1.desc).map (fun d => d.parameters.length) = some 1 := by decide +kernel
theorem len_S_isVariable : (parseMethodDescriptor (Y_S_isVariable).1.desc).map (fun d => d.parameters.length) = some 1 := by decide +kernel
theorem len_T_inFirstSide : (parseMethodDescriptor (Y_T_inFirstSide).1.desc).map (fun d => d.parameters.length) = some 1 := by decide +kernel
theorem len_S_partsInPattern : (parseMethodDescriptor (Y_S_partsInPattern).1.desc).map (fun d => d.parameters.length) = some 1 := by decide +kernel
theorem len_S_parts : (parseMethodDescriptor (Y_S_parts).1.desc).map (fun d => d.parameters.length) = some 1 := by decide +kernel
theorem len_T_noteWrong : (parseMethodDescriptor (Y_T_noteWrong).1.desc).map (fun d => d.parameters.length) = some 1 := by decide +kernel
theorem len_U_init : (parseMethodDescriptor (Y_U_init).1.desc).map (fun d => d.parameters.length) = some 1 := by decide +kernel
theorem len_A_copyOf : (parseMethodDescriptor (Y_A_copyOf).1.desc).map (fun d => d.parameters.length) = some 2 := by decide +kernel
theorem len_H_min : (parseMethodDescriptor (Y_H_min).1.desc).map (fun d => d.parameters.length) = some 2 := by decide +kernel
theorem len_U_endOfPattern : (parseMethodDescriptor (Y_U_endOfPattern).1.desc).map (fun d => d.parameters.length) = some 2 := by decide +kernel
theorem len_L_add : (parseMethodDescriptor (Y_L_add).1.desc).map (fun d => d.parameters.length) = some 2 := by decide +kernel
theorem len_E_add : (parseMethodDescriptor (Y_E_add).1.desc).map (fun d => d.parameters.length) = some 0 := by decide +kernel
theorem len_E_demandTerm : (parseMethodDescriptor (Y_E_demandTerm).1.desc).map (fun d => d.parameters.length) = some 0 := by decide +kernel
theorem len_T_isTerm : (parseMethodDescriptor (Y_T_isTerm).1.desc).map (fun d => d.parameters.length) = some 0 := by decide +kernel
theorem len_K_classOf : (parseMethodDescriptor (Y_K_classOf).1.desc).map (fun d => d.parameters.length) = some 4 := by decide +kernel
theorem len_G_homeOf : (parseMethodDescriptor (Y_G_homeOf).1.desc).map (fun d => d.parameters.length) = some 4 := by decide +kernel
theorem len_G_nodeAmong : (parseMethodDescriptor (Y_G_nodeAmong).1.desc).map (fun d => d.parameters.length) = some 4 := by decide +kernel
theorem len_G_putNode : (parseMethodDescriptor (Y_G_putNode).1.desc).map (fun d => d.parameters.length) = some 5 := by decide +kernel
theorem len_G_goBack : (parseMethodDescriptor (Y_G_goBack).1.desc).map (fun d => d.parameters.length) = some 2 := by decide +kernel
theorem len_G_nameAllByNumber : (parseMethodDescriptor (Y_G_nameAllByNumber).1.desc).map (fun d => d.parameters.length) = some 0 := by decide +kernel
theorem len_L_unite : (parseMethodDescriptor (Y_L_unite).1.desc).map (fun d => d.parameters.length) = some 2 := by decide +kernel
theorem len_E_unite : (parseMethodDescriptor (Y_E_unite).1.desc).map (fun d => d.parameters.length) = some 0 := by decide +kernel
theorem len_E_demandEquation : (parseMethodDescriptor (Y_E_demandEquation).1.desc).map (fun d => d.parameters.length) = some 0 := by decide +kernel
theorem len_T_isEquation : (parseMethodDescriptor (Y_T_isEquation).1.desc).map (fun d => d.parameters.length) = some 0 := by decide +kernel
theorem len_G_join : (parseMethodDescriptor (Y_G_join).1.desc).map (fun d => d.parameters.length) = some 2 := by decide +kernel
theorem len_G_settle : (parseMethodDescriptor (Y_G_settle).1.desc).map (fun d => d.parameters.length) = some 0 := by decide +kernel
theorem len_G_rename : (parseMethodDescriptor (Y_G_rename).1.desc).map (fun d => d.parameters.length) = some 0 := by decide +kernel
theorem len_G_mergeTwins : (parseMethodDescriptor (Y_G_mergeTwins).1.desc).map (fun d => d.parameters.length) = some 0 := by decide +kernel
theorem len_G_renumber : (parseMethodDescriptor (Y_G_renumber).1.desc).map (fun d => d.parameters.length) = some 0 := by decide +kernel
theorem len_L_same : (parseMethodDescriptor (Y_L_same).1.desc).map (fun d => d.parameters.length) = some 2 := by decide +kernel
theorem len_E_same : (parseMethodDescriptor (Y_E_same).1.desc).map (fun d => d.parameters.length) = some 0 := by decide +kernel
theorem len_L_price : (parseMethodDescriptor (Y_L_price).1.desc).map (fun d => d.parameters.length) = some 3 := by decide +kernel
theorem len_E_price : (parseMethodDescriptor (Y_E_price).1.desc).map (fun d => d.parameters.length) = some 2 := by decide +kernel
theorem len_L_rounds : (parseMethodDescriptor (Y_L_rounds).1.desc).map (fun d => d.parameters.length) = some 3 := by decide +kernel
theorem len_E_rounds : (parseMethodDescriptor (Y_E_rounds).1.desc).map (fun d => d.parameters.length) = some 1 := by decide +kernel
theorem len_R_fitAll : (parseMethodDescriptor (Y_R_fitAll).1.desc).map (fun d => d.parameters.length) = some 2 := by decide +kernel
theorem len_R_listNodes : (parseMethodDescriptor (Y_R_listNodes).1.desc).map (fun d => d.parameters.length) = some 0 := by decide +kernel
theorem len_R_fitFrom : (parseMethodDescriptor (Y_R_fitFrom).1.desc).map (fun d => d.parameters.length) = some 2 := by decide +kernel
theorem len_R_joinSides : (parseMethodDescriptor (Y_R_joinSides).1.desc).map (fun d => d.parameters.length) = some 1 := by decide +kernel
theorem len_R_seatParts : (parseMethodDescriptor (Y_R_seatParts).1.desc).map (fun d => d.parameters.length) = some 3 := by decide +kernel
theorem len_L_members : (parseMethodDescriptor (Y_L_members).1.desc).map (fun d => d.parameters.length) = some 2 := by decide +kernel
theorem len_E_members : (parseMethodDescriptor (Y_E_members).1.desc).map (fun d => d.parameters.length) = some 0 := by decide +kernel
theorem len_E_takeTerm : (parseMethodDescriptor (Y_E_takeTerm).1.desc).map (fun d => d.parameters.length) = some 0 := by decide +kernel
theorem len_G_sizeOf : (parseMethodDescriptor (Y_G_sizeOf).1.desc).map (fun d => d.parameters.length) = some 1 := by decide +kernel
theorem len_L_cost : (parseMethodDescriptor (Y_L_cost).1.desc).map (fun d => d.parameters.length) = some 2 := by decide +kernel
theorem len_E_cost : (parseMethodDescriptor (Y_E_cost).1.desc).map (fun d => d.parameters.length) = some 0 := by decide +kernel
theorem len_C_weigh : (parseMethodDescriptor (Y_C_weigh).1.desc).map (fun d => d.parameters.length) = some 0 := by decide +kernel
theorem len_A_fill_JJ : (parseMethodDescriptor (Y_A_fill_JJ).1.desc).map (fun d => d.parameters.length) = some 2 := by decide +kernel
theorem len_C_weighNode : (parseMethodDescriptor (Y_C_weighNode).1.desc).map (fun d => d.parameters.length) = some 1 := by decide +kernel
theorem len_C_costThrough : (parseMethodDescriptor (Y_C_costThrough).1.desc).map (fun d => d.parameters.length) = some 1 := by decide +kernel
theorem len_C_sum : (parseMethodDescriptor (Y_C_sum).1.desc).map (fun d => d.parameters.length) = some 2 := by decide +kernel
theorem len_C_lengthThrough : (parseMethodDescriptor (Y_C_lengthThrough).1.desc).map (fun d => d.parameters.length) = some 1 := by decide +kernel
theorem len_L_best : (parseMethodDescriptor (Y_L_best).1.desc).map (fun d => d.parameters.length) = some 2 := by decide +kernel
theorem len_E_best : (parseMethodDescriptor (Y_E_best).1.desc).map (fun d => d.parameters.length) = some 0 := by decide +kernel
theorem len_C_spell : (parseMethodDescriptor (Y_C_spell).1.desc).map (fun d => d.parameters.length) = some 1 := by decide +kernel
theorem len_C_isBest : (parseMethodDescriptor (Y_C_isBest).1.desc).map (fun d => d.parameters.length) = some 1 := by decide +kernel
theorem len_C_spellNode : (parseMethodDescriptor (Y_C_spellNode).1.desc).map (fun d => d.parameters.length) = some 2 := by decide +kernel
theorem len_C_appendTerm : (parseMethodDescriptor (Y_C_appendTerm).1.desc).map (fun d => d.parameters.length) = some 2 := by decide +kernel
theorem len_C_trialComesBefore : (parseMethodDescriptor (Y_C_trialComesBefore).1.desc).map (fun d => d.parameters.length) = some 2 := by decide +kernel
theorem len_T_become : (parseMethodDescriptor (Y_T_become).1.desc).map (fun d => d.parameters.length) = some 2 := by decide +kernel
theorem len_M_init : (parseMethodDescriptor (Y_M_init).1.desc).map (fun d => d.parameters.length) = some 0 := by decide +kernel
theorem len_M_thrown : (parseMethodDescriptor (Y_M_thrown).1.desc).map (fun d => d.parameters.length) = some 0 := by decide +kernel
theorem len_M_type : (parseMethodDescriptor (Y_M_type).1.desc).map (fun d => d.parameters.length) = some 2 := by decide +kernel
theorem len_M_within : (parseMethodDescriptor (Y_M_within).1.desc).map (fun d => d.parameters.length) = some 3 := by decide +kernel
theorem len_M_wipe : (parseMethodDescriptor (Y_M_wipe).1.desc).map (fun d => d.parameters.length) = some 0 := by decide +kernel
theorem len_M_character : (parseMethodDescriptor (Y_M_character).1.desc).map (fun d => d.parameters.length) = some 1 := by decide +kernel
theorem len_M_place : (parseMethodDescriptor (Y_M_place).1.desc).map (fun d => d.parameters.length) = some 0 := by decide +kernel
theorem len_M_rule : (parseMethodDescriptor (Y_M_rule).1.desc).map (fun d => d.parameters.length) = some 0 := by decide +kernel
theorem len_M_readBoth : (parseMethodDescriptor (Y_M_readBoth).1.desc).map (fun d => d.parameters.length) = some 2 := by decide +kernel
theorem len_M_readSide : (parseMethodDescriptor (Y_M_readSide).1.desc).map (fun d => d.parameters.length) = some 2 := by decide +kernel
theorem len_M_fail : (parseMethodDescriptor (Y_M_fail).1.desc).map (fun d => d.parameters.length) = some 0 := by decide +kernel
theorem len_M_takes : (parseMethodDescriptor (Y_M_takes).1.desc).map (fun d => d.parameters.length) = some 1 := by decide +kernel
theorem len_M_refuse : (parseMethodDescriptor (Y_M_refuse).1.desc).map (fun d => d.parameters.length) = some 1 := by decide +kernel
theorem len_M_add : (parseMethodDescriptor (Y_M_add).1.desc).map (fun d => d.parameters.length) = some 0 := by decide +kernel
theorem len_M_readTerm : (parseMethodDescriptor (Y_M_readTerm).1.desc).map (fun d => d.parameters.length) = some 0 := by decide +kernel
theorem len_M_workText : (parseMethodDescriptor (Y_M_workText).1.desc).map (fun d => d.parameters.length) = some 3 := by decide +kernel
theorem len_M_push : (parseMethodDescriptor (Y_M_push).1.desc).map (fun d => d.parameters.length) = some 2 := by decide +kernel
theorem len_M_classOf : (parseMethodDescriptor (Y_M_classOf).1.desc).map (fun d => d.parameters.length) = some 4 := by decide +kernel
theorem len_M_findNode : (parseMethodDescriptor (Y_M_findNode).1.desc).map (fun d => d.parameters.length) = some 3 := by decide +kernel
theorem len_M_cut : (parseMethodDescriptor (Y_M_cut).1.desc).map (fun d => d.parameters.length) = some 2 := by decide +kernel
theorem len_M_unite : (parseMethodDescriptor (Y_M_unite).1.desc).map (fun d => d.parameters.length) = some 0 := by decide +kernel
theorem len_M_joinClasses : (parseMethodDescriptor (Y_M_joinClasses).1.desc).map (fun d => d.parameters.length) = some 2 := by decide +kernel
theorem len_M_close : (parseMethodDescriptor (Y_M_close).1.desc).map (fun d => d.parameters.length) = some 0 := by decide +kernel
theorem len_M_labelOf : (parseMethodDescriptor (Y_M_labelOf).1.desc).map (fun d => d.parameters.length) = some 1 := by decide +kernel
theorem len_M_removeNode : (parseMethodDescriptor (Y_M_removeNode).1.desc).map (fun d => d.parameters.length) = some 1 := by decide +kernel
theorem len_M_renumber : (parseMethodDescriptor (Y_M_renumber).1.desc).map (fun d => d.parameters.length) = some 0 := by decide +kernel
theorem len_M_same : (parseMethodDescriptor (Y_M_same).1.desc).map (fun d => d.parameters.length) = some 0 := by decide +kernel
theorem len_M_price : (parseMethodDescriptor (Y_M_price).1.desc).map (fun d => d.parameters.length) = some 2 := by decide +kernel
theorem len_M_rounds : (parseMethodDescriptor (Y_M_rounds).1.desc).map (fun d => d.parameters.length) = some 1 := by decide +kernel
theorem len_M_oneRound : (parseMethodDescriptor (Y_M_oneRound).1.desc).map (fun d => d.parameters.length) = some 0 := by decide +kernel
theorem len_M_fillTables : (parseMethodDescriptor (Y_M_fillTables).1.desc).map (fun d => d.parameters.length) = some 0 := by decide +kernel
theorem len_M_kindOf : (parseMethodDescriptor (Y_M_kindOf).1.desc).map (fun d => d.parameters.length) = some 1 := by decide +kernel
theorem len_M_fit : (parseMethodDescriptor (Y_M_fit).1.desc).map (fun d => d.parameters.length) = some 2 := by decide +kernel
theorem len_M_variablesOf : (parseMethodDescriptor (Y_M_variablesOf).1.desc).map (fun d => d.parameters.length) = some 1 := by decide +kernel
theorem len_M_tabled : (parseMethodDescriptor (Y_M_tabled).1.desc).map (fun d => d.parameters.length) = some 1 := by decide +kernel
theorem len_M_workSide : (parseMethodDescriptor (Y_M_workSide).1.desc).map (fun d => d.parameters.length) = some 2 := by decide +kernel
theorem len_M_nextChoice : (parseMethodDescriptor (Y_M_nextChoice).1.desc).map (fun d => d.parameters.length) = some 2 := by decide +kernel
theorem len_M_nodes : (parseMethodDescriptor (Y_M_nodes).1.desc).map (fun d => d.parameters.length) = some 0 := by decide +kernel
theorem len_M_classes : (parseMethodDescriptor (Y_M_classes).1.desc).map (fun d => d.parameters.length) = some 0 := by decide +kernel
theorem len_M_members : (parseMethodDescriptor (Y_M_members).1.desc).map (fun d => d.parameters.length) = some 0 := by decide +kernel
theorem len_M_asked : (parseMethodDescriptor (Y_M_asked).1.desc).map (fun d => d.parameters.length) = some 0 := by decide +kernel
theorem len_M_cost : (parseMethodDescriptor (Y_M_cost).1.desc).map (fun d => d.parameters.length) = some 0 := by decide +kernel
theorem len_M_findBest : (parseMethodDescriptor (Y_M_findBest).1.desc).map (fun d => d.parameters.length) = some 0 := by decide +kernel
theorem len_M_append : (parseMethodDescriptor (Y_M_append).1.desc).map (fun d => d.parameters.length) = some 1 := by decide +kernel
theorem len_M_sum : (parseMethodDescriptor (Y_M_sum).1.desc).map (fun d => d.parameters.length) = some 2 := by decide +kernel
theorem len_M_isBetter : (parseMethodDescriptor (Y_M_isBetter).1.desc).map (fun d => d.parameters.length) = some 1 := by decide +kernel
theorem len_M_best : (parseMethodDescriptor (Y_M_best).1.desc).map (fun d => d.parameters.length) = some 0 := by decide +kernel
theorem ca_0 : Cond.castable (et_exn 0) (et_exn 0) ∈ et_NST := by decide +kernel
theorem thr_0 : et_thr "EqualTerms" 83 (et_exn 0) := by unfold et_thr; decide +kernel
theorem ca_1 : Cond.castable (et_exn 1) (et_exn 1) ∈ et_NST := by decide +kernel
theorem thr_1 : et_thr "EqualTerms" 90 (et_exn 1) := by unfold et_thr; decide +kernel
theorem ob_inst : Cond.instanceMethod Lib.objectInit ∈ et_W := et_in 75 (by decide +kernel) (by decide +kernel)
set_option maxRecDepth 100000 in
theorem ob_code : Cond.code Lib.objectInit ⟨#[0xb1]⟩ 1 none ∈ et_W := et_in 76 rfl rfl
theorem sy_nat : Cond.native arraycopyName ∈ et_W := et_in 430 (by decide +kernel) (by decide +kernel)
theorem sy_stat : Cond.static arraycopyName ∈ et_W := et_in 429 (by decide +kernel) (by decide +kernel)
end
