section
-- ===== PART A: goes FIRST, ahead of the names: the tables' words, and 'selects' of the private methods out of them =====
/-- a private method of a class that the tables say can be made, by its rows of tables_1 -/
def lw_okq (q : MethodName × Nat) : Prop := (q.1.cls ≠ "java/lang/invoke/MethodHandle" ∧ q.1.cls ≠ "java/lang/invoke/VarHandle") ∧ Cond.instantiable q.1.cls q.2 ∈ tables_1 ∧ Cond.privateMethod q.1 ∈ tables_1 ∧ Cond.instanceMethod q.1 ∈ tables_1
theorem lw_p0 : lw_okq (⟨"ConfinementAnalyzer$Text", "advance", "()V"⟩, 6) := ⟨⟨by decide +kernel, by decide +kernel⟩, List.mem_of_getElem? (i := 26) (by decide +kernel), List.mem_of_getElem? (i := 301) (by decide +kernel), List.mem_of_getElem? (i := 302) (by decide +kernel)⟩
theorem lw_p1 : lw_okq (⟨"ConfinementAnalyzer$Text", "readStatement", "(LConfinementAnalyzer$State;)Z"⟩, 6) := ⟨⟨by decide +kernel, by decide +kernel⟩, List.mem_of_getElem? (i := 26) (by decide +kernel), List.mem_of_getElem? (i := 308) (by decide +kernel), List.mem_of_getElem? (i := 309) (by decide +kernel)⟩
theorem lw_p2 : lw_okq (⟨"ConfinementAnalyzer$Text", "findStatement", "()I"⟩, 6) := ⟨⟨by decide +kernel, by decide +kernel⟩, List.mem_of_getElem? (i := 26) (by decide +kernel), List.mem_of_getElem? (i := 312) (by decide +kernel), List.mem_of_getElem? (i := 313) (by decide +kernel)⟩
theorem lw_p3 : lw_okq (⟨"ConfinementAnalyzer$Text", "tokenIs", "(Ljava/lang/String;)Z"⟩, 6) := ⟨⟨by decide +kernel, by decide +kernel⟩, List.mem_of_getElem? (i := 26) (by decide +kernel), List.mem_of_getElem? (i := 317) (by decide +kernel), List.mem_of_getElem? (i := 318) (by decide +kernel)⟩
theorem lw_p4 : lw_okq (⟨"ConfinementAnalyzer$Text", "isFull", "(LConfinementAnalyzer$State;I)Z"⟩, 6) := ⟨⟨by decide +kernel, by decide +kernel⟩, List.mem_of_getElem? (i := 26) (by decide +kernel), List.mem_of_getElem? (i := 373) (by decide +kernel), List.mem_of_getElem? (i := 374) (by decide +kernel)⟩
theorem lw_p5 : lw_okq (⟨"ConfinementAnalyzer$Text", "numberValue", "()I"⟩, 6) := ⟨⟨by decide +kernel, by decide +kernel⟩, List.mem_of_getElem? (i := 26) (by decide +kernel), List.mem_of_getElem? (i := 377) (by decide +kernel), List.mem_of_getElem? (i := 378) (by decide +kernel)⟩
theorem lw_p6 : lw_okq (⟨"ConfinementAnalyzer$Text", "accepts", "(LConfinementAnalyzer$State;III)Z"⟩, 6) := ⟨⟨by decide +kernel, by decide +kernel⟩, List.mem_of_getElem? (i := 26) (by decide +kernel), List.mem_of_getElem? (i := 381) (by decide +kernel), List.mem_of_getElem? (i := 382) (by decide +kernel)⟩
theorem lw_p7 : lw_okq (⟨"ConfinementAnalyzer$Text", "perform", "(LConfinementAnalyzer$State;I)V"⟩, 6) := ⟨⟨by decide +kernel, by decide +kernel⟩, List.mem_of_getElem? (i := 26) (by decide +kernel), List.mem_of_getElem? (i := 402) (by decide +kernel), List.mem_of_getElem? (i := 403) (by decide +kernel)⟩
theorem lw_p8 : lw_okq (⟨"ConfinementAnalyzer", "saveState", "()V"⟩, 9) := ⟨⟨by decide +kernel, by decide +kernel⟩, List.mem_of_getElem? (i := 18) (by decide +kernel), List.mem_of_getElem? (i := 414) (by decide +kernel), List.mem_of_getElem? (i := 415) (by decide +kernel)⟩
theorem lw_p9 : lw_okq (⟨"ConfinementAnalyzer", "refreshAnalysis", "()V"⟩, 9) := ⟨⟨by decide +kernel, by decide +kernel⟩, List.mem_of_getElem? (i := 18) (by decide +kernel), List.mem_of_getElem? (i := 497) (by decide +kernel), List.mem_of_getElem? (i := 498) (by decide +kernel)⟩
theorem lw_p10 : lw_okq (⟨"ConfinementAnalyzer$Roles", "readObject", "(LConfinementAnalyzer$State;I)V"⟩, 12) := ⟨⟨by decide +kernel, by decide +kernel⟩, List.mem_of_getElem? (i := 130) (by decide +kernel), List.mem_of_getElem? (i := 515) (by decide +kernel), List.mem_of_getElem? (i := 516) (by decide +kernel)⟩
theorem lw_p11 : lw_okq (⟨"ConfinementAnalyzer$Analysis", "findInitial", "(I)V"⟩, 11) := ⟨⟨by decide +kernel, by decide +kernel⟩, List.mem_of_getElem? (i := 191) (by decide +kernel), List.mem_of_getElem? (i := 535) (by decide +kernel), List.mem_of_getElem? (i := 536) (by decide +kernel)⟩
theorem lw_p12 : lw_okq (⟨"ConfinementAnalyzer$Analysis", "findRound", "(LConfinementAnalyzer$Roles;I)Z"⟩, 11) := ⟨⟨by decide +kernel, by decide +kernel⟩, List.mem_of_getElem? (i := 191) (by decide +kernel), List.mem_of_getElem? (i := 544) (by decide +kernel), List.mem_of_getElem? (i := 545) (by decide +kernel)⟩
theorem lw_p13 : lw_okq (⟨"ConfinementAnalyzer$Analysis", "findGift", "(LConfinementAnalyzer$Roles;II)Z"⟩, 11) := ⟨⟨by decide +kernel, by decide +kernel⟩, List.mem_of_getElem? (i := 191) (by decide +kernel), List.mem_of_getElem? (i := 548) (by decide +kernel), List.mem_of_getElem? (i := 549) (by decide +kernel)⟩
theorem lw_p14 : lw_okq (⟨"ConfinementAnalyzer$Analysis", "setCause", "(IIIII)V"⟩, 11) := ⟨⟨by decide +kernel, by decide +kernel⟩, List.mem_of_getElem? (i := 191) (by decide +kernel), List.mem_of_getElem? (i := 556) (by decide +kernel), List.mem_of_getElem? (i := 557) (by decide +kernel)⟩
theorem lw_p15 : lw_okq (⟨"ConfinementAnalyzer$Analysis", "findTaking", "(LConfinementAnalyzer$Roles;II)Z"⟩, 11) := ⟨⟨by decide +kernel, by decide +kernel⟩, List.mem_of_getElem? (i := 191) (by decide +kernel), List.mem_of_getElem? (i := 560) (by decide +kernel), List.mem_of_getElem? (i := 561) (by decide +kernel)⟩
def lw_privs_1 : List (MethodName × Nat) := [(⟨"ConfinementAnalyzer$Text", "advance", "()V"⟩, 6), (⟨"ConfinementAnalyzer$Text", "readStatement", "(LConfinementAnalyzer$State;)Z"⟩, 6), (⟨"ConfinementAnalyzer$Text", "findStatement", "()I"⟩, 6), (⟨"ConfinementAnalyzer$Text", "tokenIs", "(Ljava/lang/String;)Z"⟩, 6), (⟨"ConfinementAnalyzer$Text", "isFull", "(LConfinementAnalyzer$State;I)Z"⟩, 6), (⟨"ConfinementAnalyzer$Text", "numberValue", "()I"⟩, 6), (⟨"ConfinementAnalyzer$Text", "accepts", "(LConfinementAnalyzer$State;III)Z"⟩, 6), (⟨"ConfinementAnalyzer$Text", "perform", "(LConfinementAnalyzer$State;I)V"⟩, 6), (⟨"ConfinementAnalyzer", "saveState", "()V"⟩, 9), (⟨"ConfinementAnalyzer", "refreshAnalysis", "()V"⟩, 9), (⟨"ConfinementAnalyzer$Roles", "readObject", "(LConfinementAnalyzer$State;I)V"⟩, 12), (⟨"ConfinementAnalyzer$Analysis", "findInitial", "(I)V"⟩, 11), (⟨"ConfinementAnalyzer$Analysis", "findRound", "(LConfinementAnalyzer$Roles;I)Z"⟩, 11), (⟨"ConfinementAnalyzer$Analysis", "findGift", "(LConfinementAnalyzer$Roles;II)Z"⟩, 11), (⟨"ConfinementAnalyzer$Analysis", "setCause", "(IIIII)V"⟩, 11), (⟨"ConfinementAnalyzer$Analysis", "findTaking", "(LConfinementAnalyzer$Roles;II)Z"⟩, 11)]
theorem lw_r1 : ∀ q ∈ lw_privs_1, lw_okq q := List.forall_mem_cons.mpr ⟨lw_p0, List.forall_mem_cons.mpr ⟨lw_p1, List.forall_mem_cons.mpr ⟨lw_p2, List.forall_mem_cons.mpr ⟨lw_p3, List.forall_mem_cons.mpr ⟨lw_p4, List.forall_mem_cons.mpr ⟨lw_p5, List.forall_mem_cons.mpr ⟨lw_p6, List.forall_mem_cons.mpr ⟨lw_p7, List.forall_mem_cons.mpr ⟨lw_p8, List.forall_mem_cons.mpr ⟨lw_p9, List.forall_mem_cons.mpr ⟨lw_p10, List.forall_mem_cons.mpr ⟨lw_p11, List.forall_mem_cons.mpr ⟨lw_p12, List.forall_mem_cons.mpr ⟨lw_p13, List.forall_mem_cons.mpr ⟨lw_p14, List.forall_mem_cons.mpr ⟨lw_p15, fun _ h => absurd h List.not_mem_nil⟩⟩⟩⟩⟩⟩⟩⟩⟩⟩⟩⟩⟩⟩⟩⟩
theorem lw_p16 : lw_okq (⟨"ConfinementAnalyzer$Analysis", "findOpenBox", "(LConfinementAnalyzer$Roles;II)I"⟩, 11) := ⟨⟨by decide +kernel, by decide +kernel⟩, List.mem_of_getElem? (i := 191) (by decide +kernel), List.mem_of_getElem? (i := 564) (by decide +kernel), List.mem_of_getElem? (i := 565) (by decide +kernel)⟩
theorem lw_p17 : lw_okq (⟨"ConfinementAnalyzer$Analysis", "findEndowment", "(LConfinementAnalyzer$Roles;II)Z"⟩, 11) := ⟨⟨by decide +kernel, by decide +kernel⟩, List.mem_of_getElem? (i := 191) (by decide +kernel), List.mem_of_getElem? (i := 568) (by decide +kernel), List.mem_of_getElem? (i := 569) (by decide +kernel)⟩
theorem lw_p18 : lw_okq (⟨"ConfinementAnalyzer$Analysis", "publish", "(II)V"⟩, 11) := ⟨⟨by decide +kernel, by decide +kernel⟩, List.mem_of_getElem? (i := 191) (by decide +kernel), List.mem_of_getElem? (i := 572) (by decide +kernel), List.mem_of_getElem? (i := 573) (by decide +kernel)⟩
theorem lw_p19 : lw_okq (⟨"ConfinementAnalyzer$Closure", "applyRules", "(LConfinementAnalyzer$Roles;I)V"⟩, 2) := ⟨⟨by decide +kernel, by decide +kernel⟩, List.mem_of_getElem? (i := 236) (by decide +kernel), List.mem_of_getElem? (i := 585) (by decide +kernel), List.mem_of_getElem? (i := 586) (by decide +kernel)⟩
theorem lw_p20 : lw_okq (⟨"ConfinementAnalyzer$Closure", "grant", "(II)V"⟩, 2) := ⟨⟨by decide +kernel, by decide +kernel⟩, List.mem_of_getElem? (i := 236) (by decide +kernel), List.mem_of_getElem? (i := 591) (by decide +kernel), List.mem_of_getElem? (i := 592) (by decide +kernel)⟩
theorem lw_p21 : lw_okq (⟨"ConfinementAnalyzer$Closure", "takeFrom", "(LConfinementAnalyzer$Roles;II)V"⟩, 2) := ⟨⟨by decide +kernel, by decide +kernel⟩, List.mem_of_getElem? (i := 236) (by decide +kernel), List.mem_of_getElem? (i := 595) (by decide +kernel), List.mem_of_getElem? (i := 596) (by decide +kernel)⟩
theorem lw_p22 : lw_okq (⟨"ConfinementAnalyzer$Closure", "merge", "(LConfinementAnalyzer$Roles;I)V"⟩, 2) := ⟨⟨by decide +kernel, by decide +kernel⟩, List.mem_of_getElem? (i := 236) (by decide +kernel), List.mem_of_getElem? (i := 599) (by decide +kernel), List.mem_of_getElem? (i := 600) (by decide +kernel)⟩
theorem lw_p23 : lw_okq (⟨"ConfinementAnalyzer$Analysis", "enqueue", "(I)V"⟩, 11) := ⟨⟨by decide +kernel, by decide +kernel⟩, List.mem_of_getElem? (i := 191) (by decide +kernel), List.mem_of_getElem? (i := 624) (by decide +kernel), List.mem_of_getElem? (i := 625) (by decide +kernel)⟩
theorem lw_p24 : lw_okq (⟨"ConfinementAnalyzer", "findNeeded", "(I)I"⟩, 9) := ⟨⟨by decide +kernel, by decide +kernel⟩, List.mem_of_getElem? (i := 18) (by decide +kernel), List.mem_of_getElem? (i := 668) (by decide +kernel), List.mem_of_getElem? (i := 669) (by decide +kernel)⟩
theorem lw_p25 : lw_okq (⟨"ConfinementAnalyzer", "isRepair", "(I)Z"⟩, 9) := ⟨⟨by decide +kernel, by decide +kernel⟩, List.mem_of_getElem? (i := 18) (by decide +kernel), List.mem_of_getElem? (i := 673) (by decide +kernel), List.mem_of_getElem? (i := 674) (by decide +kernel)⟩
theorem lw_p26 : lw_okq (⟨"ConfinementAnalyzerModel", "advance", "()V"⟩, 17) := ⟨⟨by decide +kernel, by decide +kernel⟩, List.mem_of_getElem? (i := 735) (by decide +kernel), List.mem_of_getElem? (i := 809) (by decide +kernel), List.mem_of_getElem? (i := 810) (by decide +kernel)⟩
theorem lw_p27 : lw_okq (⟨"ConfinementAnalyzerModel", "characterAt", "(I)I"⟩, 17) := ⟨⟨by decide +kernel, by decide +kernel⟩, List.mem_of_getElem? (i := 735) (by decide +kernel), List.mem_of_getElem? (i := 813) (by decide +kernel), List.mem_of_getElem? (i := 814) (by decide +kernel)⟩
theorem lw_p28 : lw_okq (⟨"ConfinementAnalyzerModel", "keyword", "()I"⟩, 17) := ⟨⟨by decide +kernel, by decide +kernel⟩, List.mem_of_getElem? (i := 735) (by decide +kernel), List.mem_of_getElem? (i := 817) (by decide +kernel), List.mem_of_getElem? (i := 818) (by decide +kernel)⟩
theorem lw_p29 : lw_okq (⟨"ConfinementAnalyzerModel", "isLetter", "(II)Z"⟩, 17) := ⟨⟨by decide +kernel, by decide +kernel⟩, List.mem_of_getElem? (i := 735) (by decide +kernel), List.mem_of_getElem? (i := 821) (by decide +kernel), List.mem_of_getElem? (i := 822) (by decide +kernel)⟩
theorem lw_p30 : lw_okq (⟨"ConfinementAnalyzerModel", "isFine", "()Z"⟩, 17) := ⟨⟨by decide +kernel, by decide +kernel⟩, List.mem_of_getElem? (i := 735) (by decide +kernel), List.mem_of_getElem? (i := 825) (by decide +kernel), List.mem_of_getElem? (i := 826) (by decide +kernel)⟩
theorem lw_p31 : lw_okq (⟨"ConfinementAnalyzerModel", "take", "(Z)I"⟩, 17) := ⟨⟨by decide +kernel, by decide +kernel⟩, List.mem_of_getElem? (i := 735) (by decide +kernel), List.mem_of_getElem? (i := 829) (by decide +kernel), List.mem_of_getElem? (i := 830) (by decide +kernel)⟩
def lw_privs_2 : List (MethodName × Nat) := [(⟨"ConfinementAnalyzer$Analysis", "findOpenBox", "(LConfinementAnalyzer$Roles;II)I"⟩, 11), (⟨"ConfinementAnalyzer$Analysis", "findEndowment", "(LConfinementAnalyzer$Roles;II)Z"⟩, 11), (⟨"ConfinementAnalyzer$Analysis", "publish", "(II)V"⟩, 11), (⟨"ConfinementAnalyzer$Closure", "applyRules", "(LConfinementAnalyzer$Roles;I)V"⟩, 2), (⟨"ConfinementAnalyzer$Closure", "grant", "(II)V"⟩, 2), (⟨"ConfinementAnalyzer$Closure", "takeFrom", "(LConfinementAnalyzer$Roles;II)V"⟩, 2), (⟨"ConfinementAnalyzer$Closure", "merge", "(LConfinementAnalyzer$Roles;I)V"⟩, 2), (⟨"ConfinementAnalyzer$Analysis", "enqueue", "(I)V"⟩, 11), (⟨"ConfinementAnalyzer", "findNeeded", "(I)I"⟩, 9), (⟨"ConfinementAnalyzer", "isRepair", "(I)Z"⟩, 9), (⟨"ConfinementAnalyzerModel", "advance", "()V"⟩, 17), (⟨"ConfinementAnalyzerModel", "characterAt", "(I)I"⟩, 17), (⟨"ConfinementAnalyzerModel", "keyword", "()I"⟩, 17), (⟨"ConfinementAnalyzerModel", "isLetter", "(II)Z"⟩, 17), (⟨"ConfinementAnalyzerModel", "isFine", "()Z"⟩, 17), (⟨"ConfinementAnalyzerModel", "take", "(Z)I"⟩, 17)]
theorem lw_r2 : ∀ q ∈ lw_privs_2, lw_okq q := List.forall_mem_cons.mpr ⟨lw_p16, List.forall_mem_cons.mpr ⟨lw_p17, List.forall_mem_cons.mpr ⟨lw_p18, List.forall_mem_cons.mpr ⟨lw_p19, List.forall_mem_cons.mpr ⟨lw_p20, List.forall_mem_cons.mpr ⟨lw_p21, List.forall_mem_cons.mpr ⟨lw_p22, List.forall_mem_cons.mpr ⟨lw_p23, List.forall_mem_cons.mpr ⟨lw_p24, List.forall_mem_cons.mpr ⟨lw_p25, List.forall_mem_cons.mpr ⟨lw_p26, List.forall_mem_cons.mpr ⟨lw_p27, List.forall_mem_cons.mpr ⟨lw_p28, List.forall_mem_cons.mpr ⟨lw_p29, List.forall_mem_cons.mpr ⟨lw_p30, List.forall_mem_cons.mpr ⟨lw_p31, fun _ h => absurd h List.not_mem_nil⟩⟩⟩⟩⟩⟩⟩⟩⟩⟩⟩⟩⟩⟩⟩⟩
theorem lw_p32 : lw_okq (⟨"ConfinementAnalyzerModel", "readHold", "()V"⟩, 17) := ⟨⟨by decide +kernel, by decide +kernel⟩, List.mem_of_getElem? (i := 735) (by decide +kernel), List.mem_of_getElem? (i := 833) (by decide +kernel), List.mem_of_getElem? (i := 834) (by decide +kernel)⟩
theorem lw_p33 : lw_okq (⟨"ConfinementAnalyzerModel", "readObject", "(I)V"⟩, 17) := ⟨⟨by decide +kernel, by decide +kernel⟩, List.mem_of_getElem? (i := 735) (by decide +kernel), List.mem_of_getElem? (i := 843) (by decide +kernel), List.mem_of_getElem? (i := 844) (by decide +kernel)⟩
theorem lw_p34 : lw_okq (⟨"ConfinementAnalyzerModel", "number", "(I)I"⟩, 17) := ⟨⟨by decide +kernel, by decide +kernel⟩, List.mem_of_getElem? (i := 735) (by decide +kernel), List.mem_of_getElem? (i := 847) (by decide +kernel), List.mem_of_getElem? (i := 848) (by decide +kernel)⟩
theorem lw_p35 : lw_okq (⟨"ConfinementAnalyzerModel", "save", "()V"⟩, 17) := ⟨⟨by decide +kernel, by decide +kernel⟩, List.mem_of_getElem? (i := 735) (by decide +kernel), List.mem_of_getElem? (i := 851) (by decide +kernel), List.mem_of_getElem? (i := 852) (by decide +kernel)⟩
theorem lw_p36 : lw_okq (⟨"ConfinementAnalyzerModel", "beginRun", "()V"⟩, 17) := ⟨⟨by decide +kernel, by decide +kernel⟩, List.mem_of_getElem? (i := 735) (by decide +kernel), List.mem_of_getElem? (i := 855) (by decide +kernel), List.mem_of_getElem? (i := 856) (by decide +kernel)⟩
theorem lw_p37 : lw_okq (⟨"ConfinementAnalyzerModel", "isObject", "(I)Z"⟩, 17) := ⟨⟨by decide +kernel, by decide +kernel⟩, List.mem_of_getElem? (i := 735) (by decide +kernel), List.mem_of_getElem? (i := 867) (by decide +kernel), List.mem_of_getElem? (i := 868) (by decide +kernel)⟩
theorem lw_p38 : lw_okq (⟨"ConfinementAnalyzerModel", "isOf", "(II)Z"⟩, 17) := ⟨⟨by decide +kernel, by decide +kernel⟩, List.mem_of_getElem? (i := 735) (by decide +kernel), List.mem_of_getElem? (i := 875) (by decide +kernel), List.mem_of_getElem? (i := 876) (by decide +kernel)⟩
theorem lw_p39 : lw_okq (⟨"ConfinementAnalyzerModel", "change", "(II)I"⟩, 17) := ⟨⟨by decide +kernel, by decide +kernel⟩, List.mem_of_getElem? (i := 735) (by decide +kernel), List.mem_of_getElem? (i := 883) (by decide +kernel), List.mem_of_getElem? (i := 884) (by decide +kernel)⟩
theorem lw_p40 : lw_okq (⟨"ConfinementAnalyzerModel", "areObjects", "(II)Z"⟩, 17) := ⟨⟨by decide +kernel, by decide +kernel⟩, List.mem_of_getElem? (i := 735) (by decide +kernel), List.mem_of_getElem? (i := 907) (by decide +kernel), List.mem_of_getElem? (i := 908) (by decide +kernel)⟩
theorem lw_p41 : lw_okq (⟨"ConfinementAnalyzerModel", "roundOf", "(II)I"⟩, 17) := ⟨⟨by decide +kernel, by decide +kernel⟩, List.mem_of_getElem? (i := 735) (by decide +kernel), List.mem_of_getElem? (i := 911) (by decide +kernel), List.mem_of_getElem? (i := 912) (by decide +kernel)⟩
theorem lw_p42 : lw_okq (⟨"ConfinementAnalyzerModel", "analyse", "(I)V"⟩, 17) := ⟨⟨by decide +kernel, by decide +kernel⟩, List.mem_of_getElem? (i := 735) (by decide +kernel), List.mem_of_getElem? (i := 915) (by decide +kernel), List.mem_of_getElem? (i := 916) (by decide +kernel)⟩
theorem lw_p43 : lw_okq (⟨"ConfinementAnalyzerModel", "findRound", "(I)Z"⟩, 17) := ⟨⟨by decide +kernel, by decide +kernel⟩, List.mem_of_getElem? (i := 735) (by decide +kernel), List.mem_of_getElem? (i := 922) (by decide +kernel), List.mem_of_getElem? (i := 923) (by decide +kernel)⟩
theorem lw_p44 : lw_okq (⟨"ConfinementAnalyzerModel", "ruleFor", "(III)I"⟩, 17) := ⟨⟨by decide +kernel, by decide +kernel⟩, List.mem_of_getElem? (i := 735) (by decide +kernel), List.mem_of_getElem? (i := 926) (by decide +kernel), List.mem_of_getElem? (i := 927) (by decide +kernel)⟩
theorem lw_p45 : lw_okq (⟨"ConfinementAnalyzerModel", "partnerBy", "(IIII)I"⟩, 17) := ⟨⟨by decide +kernel, by decide +kernel⟩, List.mem_of_getElem? (i := 735) (by decide +kernel), List.mem_of_getElem? (i := 930) (by decide +kernel), List.mem_of_getElem? (i := 931) (by decide +kernel)⟩
theorem lw_p46 : lw_okq (⟨"ConfinementAnalyzerModel", "giver", "(III)I"⟩, 17) := ⟨⟨by decide +kernel, by decide +kernel⟩, List.mem_of_getElem? (i := 735) (by decide +kernel), List.mem_of_getElem? (i := 934) (by decide +kernel), List.mem_of_getElem? (i := 935) (by decide +kernel)⟩
theorem lw_p47 : lw_okq (⟨"ConfinementAnalyzerModel", "does", "(II)Z"⟩, 17) := ⟨⟨by decide +kernel, by decide +kernel⟩, List.mem_of_getElem? (i := 735) (by decide +kernel), List.mem_of_getElem? (i := 938) (by decide +kernel), List.mem_of_getElem? (i := 939) (by decide +kernel)⟩
def lw_privs_3 : List (MethodName × Nat) := [(⟨"ConfinementAnalyzerModel", "readHold", "()V"⟩, 17), (⟨"ConfinementAnalyzerModel", "readObject", "(I)V"⟩, 17), (⟨"ConfinementAnalyzerModel", "number", "(I)I"⟩, 17), (⟨"ConfinementAnalyzerModel", "save", "()V"⟩, 17), (⟨"ConfinementAnalyzerModel", "beginRun", "()V"⟩, 17), (⟨"ConfinementAnalyzerModel", "isObject", "(I)Z"⟩, 17), (⟨"ConfinementAnalyzerModel", "isOf", "(II)Z"⟩, 17), (⟨"ConfinementAnalyzerModel", "change", "(II)I"⟩, 17), (⟨"ConfinementAnalyzerModel", "areObjects", "(II)Z"⟩, 17), (⟨"ConfinementAnalyzerModel", "roundOf", "(II)I"⟩, 17), (⟨"ConfinementAnalyzerModel", "analyse", "(I)V"⟩, 17), (⟨"ConfinementAnalyzerModel", "findRound", "(I)Z"⟩, 17), (⟨"ConfinementAnalyzerModel", "ruleFor", "(III)I"⟩, 17), (⟨"ConfinementAnalyzerModel", "partnerBy", "(IIII)I"⟩, 17), (⟨"ConfinementAnalyzerModel", "giver", "(III)I"⟩, 17), (⟨"ConfinementAnalyzerModel", "does", "(II)Z"⟩, 17)]
theorem lw_r3 : ∀ q ∈ lw_privs_3, lw_okq q := List.forall_mem_cons.mpr ⟨lw_p32, List.forall_mem_cons.mpr ⟨lw_p33, List.forall_mem_cons.mpr ⟨lw_p34, List.forall_mem_cons.mpr ⟨lw_p35, List.forall_mem_cons.mpr ⟨lw_p36, List.forall_mem_cons.mpr ⟨lw_p37, List.forall_mem_cons.mpr ⟨lw_p38, List.forall_mem_cons.mpr ⟨lw_p39, List.forall_mem_cons.mpr ⟨lw_p40, List.forall_mem_cons.mpr ⟨lw_p41, List.forall_mem_cons.mpr ⟨lw_p42, List.forall_mem_cons.mpr ⟨lw_p43, List.forall_mem_cons.mpr ⟨lw_p44, List.forall_mem_cons.mpr ⟨lw_p45, List.forall_mem_cons.mpr ⟨lw_p46, List.forall_mem_cons.mpr ⟨lw_p47, fun _ h => absurd h List.not_mem_nil⟩⟩⟩⟩⟩⟩⟩⟩⟩⟩⟩⟩⟩⟩⟩⟩
theorem lw_p48 : lw_okq (⟨"ConfinementAnalyzerModel", "isFound", "(III)Z"⟩, 17) := ⟨⟨by decide +kernel, by decide +kernel⟩, List.mem_of_getElem? (i := 735) (by decide +kernel), List.mem_of_getElem? (i := 942) (by decide +kernel), List.mem_of_getElem? (i := 943) (by decide +kernel)⟩
theorem lw_p49 : lw_okq (⟨"ConfinementAnalyzerModel", "answerer", "(III)I"⟩, 17) := ⟨⟨by decide +kernel, by decide +kernel⟩, List.mem_of_getElem? (i := 735) (by decide +kernel), List.mem_of_getElem? (i := 946) (by decide +kernel), List.mem_of_getElem? (i := 947) (by decide +kernel)⟩
theorem lw_p50 : lw_okq (⟨"ConfinementAnalyzerModel", "openedBox", "(III)I"⟩, 17) := ⟨⟨by decide +kernel, by decide +kernel⟩, List.mem_of_getElem? (i := 735) (by decide +kernel), List.mem_of_getElem? (i := 950) (by decide +kernel), List.mem_of_getElem? (i := 951) (by decide +kernel)⟩
theorem lw_p51 : lw_okq (⟨"ConfinementAnalyzerModel", "keyOf", "(III)I"⟩, 17) := ⟨⟨by decide +kernel, by decide +kernel⟩, List.mem_of_getElem? (i := 735) (by decide +kernel), List.mem_of_getElem? (i := 954) (by decide +kernel), List.mem_of_getElem? (i := 955) (by decide +kernel)⟩
theorem lw_p52 : lw_okq (⟨"ConfinementAnalyzerModel", "creator", "(III)I"⟩, 17) := ⟨⟨by decide +kernel, by decide +kernel⟩, List.mem_of_getElem? (i := 735) (by decide +kernel), List.mem_of_getElem? (i := 958) (by decide +kernel), List.mem_of_getElem? (i := 959) (by decide +kernel)⟩
theorem lw_p53 : lw_okq (⟨"ConfinementAnalyzerModel", "endower", "(III)I"⟩, 17) := ⟨⟨by decide +kernel, by decide +kernel⟩, List.mem_of_getElem? (i := 735) (by decide +kernel), List.mem_of_getElem? (i := 962) (by decide +kernel), List.mem_of_getElem? (i := 963) (by decide +kernel)⟩
theorem lw_p54 : lw_okq (⟨"ConfinementAnalyzerModel", "userOf", "(II)I"⟩, 17) := ⟨⟨by decide +kernel, by decide +kernel⟩, List.mem_of_getElem? (i := 735) (by decide +kernel), List.mem_of_getElem? (i := 966) (by decide +kernel), List.mem_of_getElem? (i := 967) (by decide +kernel)⟩
theorem lw_p55 : lw_okq (⟨"ConfinementAnalyzerModel", "derive", "(II)V"⟩, 17) := ⟨⟨by decide +kernel, by decide +kernel⟩, List.mem_of_getElem? (i := 735) (by decide +kernel), List.mem_of_getElem? (i := 986) (by decide +kernel), List.mem_of_getElem? (i := 987) (by decide +kernel)⟩
theorem lw_p56 : lw_okq (⟨"ConfinementAnalyzerModel", "derivePremises", "(II)V"⟩, 17) := ⟨⟨by decide +kernel, by decide +kernel⟩, List.mem_of_getElem? (i := 735) (by decide +kernel), List.mem_of_getElem? (i := 990) (by decide +kernel), List.mem_of_getElem? (i := 991) (by decide +kernel)⟩
theorem lw_p57 : lw_okq (⟨"ConfinementAnalyzerModel", "merge", "()Z"⟩, 17) := ⟨⟨by decide +kernel, by decide +kernel⟩, List.mem_of_getElem? (i := 735) (by decide +kernel), List.mem_of_getElem? (i := 1002) (by decide +kernel), List.mem_of_getElem? (i := 1003) (by decide +kernel)⟩
theorem lw_p58 : lw_okq (⟨"ConfinementAnalyzerModel", "mergeGroups", "(II)Z"⟩, 17) := ⟨⟨by decide +kernel, by decide +kernel⟩, List.mem_of_getElem? (i := 735) (by decide +kernel), List.mem_of_getElem? (i := 1006) (by decide +kernel), List.mem_of_getElem? (i := 1007) (by decide +kernel)⟩
theorem lw_p59 : lw_okq (⟨"ConfinementAnalyzerModel", "requirementOf", "(II)I"⟩, 17) := ⟨⟨by decide +kernel, by decide +kernel⟩, List.mem_of_getElem? (i := 735) (by decide +kernel), List.mem_of_getElem? (i := 1014) (by decide +kernel), List.mem_of_getElem? (i := 1015) (by decide +kernel)⟩
theorem lw_p60 : lw_okq (⟨"ConfinementAnalyzerModel", "violations", "()I"⟩, 17) := ⟨⟨by decide +kernel, by decide +kernel⟩, List.mem_of_getElem? (i := 735) (by decide +kernel), List.mem_of_getElem? (i := 1026) (by decide +kernel), List.mem_of_getElem? (i := 1027) (by decide +kernel)⟩
theorem lw_p61 : lw_okq (⟨"ConfinementAnalyzerModel", "holds", "(II)Z"⟩, 17) := ⟨⟨by decide +kernel, by decide +kernel⟩, List.mem_of_getElem? (i := 735) (by decide +kernel), List.mem_of_getElem? (i := 1041) (by decide +kernel), List.mem_of_getElem? (i := 1042) (by decide +kernel)⟩
theorem lw_p62 : lw_okq (⟨"ConfinementAnalyzerModel", "saveAndHold", "(II)I"⟩, 17) := ⟨⟨by decide +kernel, by decide +kernel⟩, List.mem_of_getElem? (i := 735) (by decide +kernel), List.mem_of_getElem? (i := 1045) (by decide +kernel), List.mem_of_getElem? (i := 1046) (by decide +kernel)⟩
def lw_privs_4 : List (MethodName × Nat) := [(⟨"ConfinementAnalyzerModel", "isFound", "(III)Z"⟩, 17), (⟨"ConfinementAnalyzerModel", "answerer", "(III)I"⟩, 17), (⟨"ConfinementAnalyzerModel", "openedBox", "(III)I"⟩, 17), (⟨"ConfinementAnalyzerModel", "keyOf", "(III)I"⟩, 17), (⟨"ConfinementAnalyzerModel", "creator", "(III)I"⟩, 17), (⟨"ConfinementAnalyzerModel", "endower", "(III)I"⟩, 17), (⟨"ConfinementAnalyzerModel", "userOf", "(II)I"⟩, 17), (⟨"ConfinementAnalyzerModel", "derive", "(II)V"⟩, 17), (⟨"ConfinementAnalyzerModel", "derivePremises", "(II)V"⟩, 17), (⟨"ConfinementAnalyzerModel", "merge", "()Z"⟩, 17), (⟨"ConfinementAnalyzerModel", "mergeGroups", "(II)Z"⟩, 17), (⟨"ConfinementAnalyzerModel", "requirementOf", "(II)I"⟩, 17), (⟨"ConfinementAnalyzerModel", "violations", "()I"⟩, 17), (⟨"ConfinementAnalyzerModel", "holds", "(II)Z"⟩, 17), (⟨"ConfinementAnalyzerModel", "saveAndHold", "(II)I"⟩, 17)]
theorem lw_r4 : ∀ q ∈ lw_privs_4, lw_okq q := List.forall_mem_cons.mpr ⟨lw_p48, List.forall_mem_cons.mpr ⟨lw_p49, List.forall_mem_cons.mpr ⟨lw_p50, List.forall_mem_cons.mpr ⟨lw_p51, List.forall_mem_cons.mpr ⟨lw_p52, List.forall_mem_cons.mpr ⟨lw_p53, List.forall_mem_cons.mpr ⟨lw_p54, List.forall_mem_cons.mpr ⟨lw_p55, List.forall_mem_cons.mpr ⟨lw_p56, List.forall_mem_cons.mpr ⟨lw_p57, List.forall_mem_cons.mpr ⟨lw_p58, List.forall_mem_cons.mpr ⟨lw_p59, List.forall_mem_cons.mpr ⟨lw_p60, List.forall_mem_cons.mpr ⟨lw_p61, List.forall_mem_cons.mpr ⟨lw_p62, fun _ h => absurd h List.not_mem_nil⟩⟩⟩⟩⟩⟩⟩⟩⟩⟩⟩⟩⟩⟩⟩
def lw_privs : List (MethodName × Nat) := lw_privs_1 ++ (lw_privs_2 ++ (lw_privs_3 ++ (lw_privs_4)))
def lw_tbl : List Cond := k2_sels lw_privs ++ tables_1
theorem lw_privs_ok : ∀ q ∈ lw_privs, lw_okq q := by
  show ∀ q ∈ lw_privs_1 ++ (lw_privs_2 ++ (lw_privs_3 ++ (lw_privs_4))), lw_okq q
  exact List.forall_mem_append.mpr ⟨lw_r1, List.forall_mem_append.mpr ⟨lw_r2, List.forall_mem_append.mpr ⟨lw_r3, lw_r4⟩⟩⟩
end
section
def RX0 : String := "ConfinementAnalyzer$Analysis"
def TX0 : u_T := fun k => match k with
  | 0 => ("ConfinementAnalyzer$Analysis", "rows", "[I", true)
  | 1 => ("ConfinementAnalyzer$Analysis", "columns", "[I", true)
  | 2 => ("ConfinementAnalyzer$Analysis", "rounds", "[I", true)
  | 3 => ("ConfinementAnalyzer$Analysis", "rules", "[I", true)
  | 4 => ("ConfinementAnalyzer$Analysis", "partners", "[I", true)
  | 5 => ("ConfinementAnalyzer$Analysis", "firstPremises", "[I", true)
  | 6 => ("ConfinementAnalyzer$Analysis", "secondPremises", "[I", true)
  | 7 => ("ConfinementAnalyzer$Analysis", "lastRound", "I", false)
  | 8 => ("ConfinementAnalyzer$Analysis", "marks", "[I", true)
  | 9 => ("ConfinementAnalyzer$Analysis", "queue", "[I", true)
  | _ => ("ConfinementAnalyzer$Analysis", "queued", "I", false)
def tyX0 : Nat → FieldType := fun k => match k with
  | 0 => .array .int
  | 1 => .array .int
  | 2 => .array .int
  | 3 => .array .int
  | 4 => .array .int
  | 5 => .array .int
  | 6 => .array .int
  | 7 => .int
  | 8 => .array .int
  | 9 => .array .int
  | _ => .int
abbrev wsX00 : List Cond := u_ws RX0 TX0 11
theorem nmX0 : ∀ a, a < 11 → ∀ b, b < 11 → a ≠ b → (TX0 a).2.1 ≠ (TX0 b).2.1 := by decide +kernel
theorem tyX0_ok : ∀ k, k < 11 → parseFieldDescriptor (TX0 k).2.2.1 = some (tyX0 k) := by decide +kernel
abbrev cX0_init : ByteArray := prog_2_method_1_code
def yX0_init : MethodName := ⟨RX0, "<init>", "()V"⟩
abbrev cX0_findAll : ByteArray := prog_2_method_2_code
def yX0_findAll : MethodName := ⟨RX0, "findAll", "(LConfinementAnalyzer$Roles;LConfinementAnalyzer$State;)V"⟩
abbrev cX0_findInitial : ByteArray := prog_2_method_3_code
def yX0_findInitial : MethodName := ⟨RX0, "findInitial", "(I)V"⟩
abbrev cX0_findRound : ByteArray := prog_2_method_4_code
def yX0_findRound : MethodName := ⟨RX0, "findRound", "(LConfinementAnalyzer$Roles;I)Z"⟩
abbrev cX0_publish : ByteArray := prog_2_method_5_code
def yX0_publish : MethodName := ⟨RX0, "publish", "(II)V"⟩
abbrev cX0_findGift : ByteArray := prog_2_method_6_code
def yX0_findGift : MethodName := ⟨RX0, "findGift", "(LConfinementAnalyzer$Roles;II)Z"⟩
abbrev cX0_findTaking : ByteArray := prog_2_method_7_code
def yX0_findTaking : MethodName := ⟨RX0, "findTaking", "(LConfinementAnalyzer$Roles;II)Z"⟩
abbrev cX0_findOpenBox : ByteArray := prog_2_method_8_code
def yX0_findOpenBox : MethodName := ⟨RX0, "findOpenBox", "(LConfinementAnalyzer$Roles;II)I"⟩
abbrev cX0_findEndowment : ByteArray := prog_2_method_9_code
def yX0_findEndowment : MethodName := ⟨RX0, "findEndowment", "(LConfinementAnalyzer$Roles;II)Z"⟩
abbrev cX0_setCause : ByteArray := prog_2_method_10_code
def yX0_setCause : MethodName := ⟨RX0, "setCause", "(IIIII)V"⟩
abbrev cX0_countDerived : ByteArray := prog_2_method_11_code
def yX0_countDerived : MethodName := ⟨RX0, "countDerived", "(I)I"⟩
abbrev cX0_enqueue : ByteArray := prog_2_method_12_code
def yX0_enqueue : MethodName := ⟨RX0, "enqueue", "(I)V"⟩
def RX1 : String := "ConfinementAnalyzer$Closure"
def TX1 : u_T := fun k => match k with
  | 0 => ("ConfinementAnalyzer$Closure", "rows", "[I", true)
  | _ => ("ConfinementAnalyzer$Closure", "grown", "Z", false)
def tyX1 : Nat → FieldType := fun k => match k with
  | 0 => .array .int
  | _ => .boolean
abbrev wsX10 : List Cond := u_ws RX1 TX1 2
theorem nmX1 : ∀ a, a < 2 → ∀ b, b < 2 → a ≠ b → (TX1 a).2.1 ≠ (TX1 b).2.1 := by decide +kernel
theorem tyX1_ok : ∀ k, k < 2 → parseFieldDescriptor (TX1 k).2.2.1 = some (tyX1 k) := by decide +kernel
abbrev cX1_init : ByteArray := prog_3_method_1_code
def yX1_init : MethodName := ⟨RX1, "<init>", "()V"⟩
abbrev cX1_start : ByteArray := prog_3_method_2_code
def yX1_start : MethodName := ⟨RX1, "start", "(LConfinementAnalyzer$State;I)V"⟩
abbrev cX1_close : ByteArray := prog_3_method_3_code
def yX1_close : MethodName := ⟨RX1, "close", "(LConfinementAnalyzer$Roles;Z)V"⟩
abbrev cX1_applyRules : ByteArray := prog_3_method_4_code
def yX1_applyRules : MethodName := ⟨RX1, "applyRules", "(LConfinementAnalyzer$Roles;I)V"⟩
abbrev cX1_takeFrom : ByteArray := prog_3_method_5_code
def yX1_takeFrom : MethodName := ⟨RX1, "takeFrom", "(LConfinementAnalyzer$Roles;II)V"⟩
abbrev cX1_merge : ByteArray := prog_3_method_6_code
def yX1_merge : MethodName := ⟨RX1, "merge", "(LConfinementAnalyzer$Roles;I)V"⟩
abbrev cX1_grant : ByteArray := prog_3_method_7_code
def yX1_grant : MethodName := ⟨RX1, "grant", "(II)V"⟩
def RX2 : String := "ConfinementAnalyzer$History"
def TX2 : u_T := fun k => match k with
  | 0 => ("ConfinementAnalyzer$History", "slots", "[LConfinementAnalyzer$State;", true)
  | 1 => ("ConfinementAnalyzer$History", "next", "I", false)
  | _ => ("ConfinementAnalyzer$History", "size", "I", false)
def tyX2 : Nat → FieldType := fun k => match k with
  | 0 => .array (.object "ConfinementAnalyzer$State")
  | 1 => .int
  | _ => .int
abbrev wsX20 : List Cond := u_ws RX2 TX2 3
theorem nmX2 : ∀ a, a < 3 → ∀ b, b < 3 → a ≠ b → (TX2 a).2.1 ≠ (TX2 b).2.1 := by decide +kernel
theorem tyX2_ok : ∀ k, k < 3 → parseFieldDescriptor (TX2 k).2.2.1 = some (tyX2 k) := by decide +kernel
abbrev cX2_init : ByteArray := prog_4_method_1_code
def yX2_init : MethodName := ⟨RX2, "<init>", "()V"⟩
abbrev cX2_save : ByteArray := prog_4_method_2_code
def yX2_save : MethodName := ⟨RX2, "save", "(LConfinementAnalyzer$State;)V"⟩
abbrev cX2_restoreInto : ByteArray := prog_4_method_3_code
def yX2_restoreInto : MethodName := ⟨RX2, "restoreInto", "(LConfinementAnalyzer$State;)V"⟩
def RX3 : String := "ConfinementAnalyzer$Roles"
def TX3 : u_T := fun k => match k with
  | 0 => ("ConfinementAnalyzer$Roles", "objectCount", "I", false)
  | 1 => ("ConfinementAnalyzer$Roles", "givers", "I", false)
  | 2 => ("ConfinementAnalyzer$Roles", "takers", "I", false)
  | 3 => ("ConfinementAnalyzer$Roles", "keepers", "I", false)
  | 4 => ("ConfinementAnalyzer$Roles", "answerers", "I", false)
  | 5 => ("ConfinementAnalyzer$Roles", "factories", "I", false)
  | 6 => ("ConfinementAnalyzer$Roles", "holders", "I", false)
  | 7 => ("ConfinementAnalyzer$Roles", "targets", "[I", true)
  | 8 => ("ConfinementAnalyzer$Roles", "openers", "[I", true)
  | 9 => ("ConfinementAnalyzer$Roles", "wrappers", "[I", true)
  | 10 => ("ConfinementAnalyzer$Roles", "makers", "[I", true)
  | _ => ("ConfinementAnalyzer$Roles", "mates", "[I", true)
def tyX3 : Nat → FieldType := fun k => match k with
  | 0 => .int
  | 1 => .int
  | 2 => .int
  | 3 => .int
  | 4 => .int
  | 5 => .int
  | 6 => .int
  | 7 => .array .int
  | 8 => .array .int
  | 9 => .array .int
  | 10 => .array .int
  | _ => .array .int
abbrev wsX30 : List Cond := u_ws RX3 TX3 12
theorem nmX3 : ∀ a, a < 12 → ∀ b, b < 12 → a ≠ b → (TX3 a).2.1 ≠ (TX3 b).2.1 := by decide +kernel
theorem tyX3_ok : ∀ k, k < 12 → parseFieldDescriptor (TX3 k).2.2.1 = some (tyX3 k) := by decide +kernel
abbrev cX3_init : ByteArray := prog_5_method_1_code
def yX3_init : MethodName := ⟨RX3, "<init>", "()V"⟩
abbrev cX3_readFrom : ByteArray := prog_5_method_2_code
def yX3_readFrom : MethodName := ⟨RX3, "readFrom", "(LConfinementAnalyzer$State;)V"⟩
abbrev cX3_readObject : ByteArray := prog_5_method_3_code
def yX3_readObject : MethodName := ⟨RX3, "readObject", "(LConfinementAnalyzer$State;I)V"⟩
abbrev cX3_agentsWith : ByteArray := prog_5_method_4_code
def yX3_agentsWith : MethodName := ⟨RX3, "agentsWith", "(LConfinementAnalyzer$State;I)I"⟩
def RX4 : String := "ConfinementAnalyzer$State"
def TX4 : u_T := fun k => match k with
  | 0 => ("ConfinementAnalyzer$State", "objectCount", "I", false)
  | 1 => ("ConfinementAnalyzer$State", "kinds", "[I", true)
  | 2 => ("ConfinementAnalyzer$State", "traits", "[I", true)
  | 3 => ("ConfinementAnalyzer$State", "targets", "[I", true)
  | 4 => ("ConfinementAnalyzer$State", "groups", "[I", true)
  | 5 => ("ConfinementAnalyzer$State", "referenceCount", "I", false)
  | 6 => ("ConfinementAnalyzer$State", "referenceHolders", "[I", true)
  | 7 => ("ConfinementAnalyzer$State", "referenceObjects", "[I", true)
  | 8 => ("ConfinementAnalyzer$State", "requirementCount", "I", false)
  | 9 => ("ConfinementAnalyzer$State", "requirementHolders", "[I", true)
  | 10 => ("ConfinementAnalyzer$State", "requirementObjects", "[I", true)
  | _ => ("ConfinementAnalyzer$State", "runRows", "[I", true)
def tyX4 : Nat → FieldType := fun k => match k with
  | 0 => .int
  | 1 => .array .int
  | 2 => .array .int
  | 3 => .array .int
  | 4 => .array .int
  | 5 => .int
  | 6 => .array .int
  | 7 => .array .int
  | 8 => .int
  | 9 => .array .int
  | 10 => .array .int
  | _ => .array .int
abbrev wsX40 : List Cond := u_ws RX4 TX4 12
theorem nmX4 : ∀ a, a < 12 → ∀ b, b < 12 → a ≠ b → (TX4 a).2.1 ≠ (TX4 b).2.1 := by decide +kernel
theorem tyX4_ok : ∀ k, k < 12 → parseFieldDescriptor (TX4 k).2.2.1 = some (tyX4 k) := by decide +kernel
abbrev cX4_init : ByteArray := prog_6_method_1_code
def yX4_init : MethodName := ⟨RX4, "<init>", "()V"⟩
abbrev cX4_reset : ByteArray := prog_6_method_2_code
def yX4_reset : MethodName := ⟨RX4, "reset", "()V"⟩
abbrev cX4_copyFrom : ByteArray := prog_6_method_3_code
def yX4_copyFrom : MethodName := ⟨RX4, "copyFrom", "(LConfinementAnalyzer$State;)V"⟩
abbrev cX4_has : ByteArray := prog_6_method_4_code
def yX4_has : MethodName := ⟨RX4, "has", "(I)Z"⟩
abbrev cX4_hasBoth : ByteArray := prog_6_method_5_code
def yX4_hasBoth : MethodName := ⟨RX4, "hasBoth", "(II)Z"⟩
abbrev cX4_isOfKind : ByteArray := prog_6_method_6_code
def yX4_isOfKind : MethodName := ⟨RX4, "isOfKind", "(II)Z"⟩
abbrev cX4_isAgent : ByteArray := prog_6_method_7_code
def yX4_isAgent : MethodName := ⟨RX4, "isAgent", "(I)Z"⟩
abbrev cX4_isAgentWith : ByteArray := prog_6_method_8_code
def yX4_isAgentWith : MethodName := ⟨RX4, "isAgentWith", "(II)Z"⟩
abbrev cX4_canHold : ByteArray := prog_6_method_9_code
def yX4_canHold : MethodName := ⟨RX4, "canHold", "(I)Z"⟩
abbrev cX4_fits : ByteArray := prog_6_method_10_code
def yX4_fits : MethodName := ⟨RX4, "fits", "(II)Z"⟩
abbrev cX4_declareObject : ByteArray := prog_6_method_11_code
def yX4_declareObject : MethodName := ⟨RX4, "declareObject", "(IIII)V"⟩
abbrev cX4_listsReference : ByteArray := prog_6_method_12_code
def yX4_listsReference : MethodName := ⟨RX4, "listsReference", "(II)Z"⟩
abbrev cX4_listReference : ByteArray := prog_6_method_13_code
def yX4_listReference : MethodName := ⟨RX4, "listReference", "(II)V"⟩
abbrev cX4_unlistReference : ByteArray := prog_6_method_14_code
def yX4_unlistReference : MethodName := ⟨RX4, "unlistReference", "(I)V"⟩
abbrev cX4_findRequirement : ByteArray := prog_6_method_15_code
def yX4_findRequirement : MethodName := ⟨RX4, "findRequirement", "(II)I"⟩
abbrev cX4_addRequirement : ByteArray := prog_6_method_16_code
def yX4_addRequirement : MethodName := ⟨RX4, "addRequirement", "(II)V"⟩
abbrev cX4_dropRequirement : ByteArray := prog_6_method_17_code
def yX4_dropRequirement : MethodName := ⟨RX4, "dropRequirement", "(I)V"⟩
abbrev cX4_countViolations : ByteArray := prog_6_method_18_code
def yX4_countViolations : MethodName := ⟨RX4, "countViolations", "([I)I"⟩
abbrev cX4_fillInitialRows : ByteArray := prog_6_method_19_code
def yX4_fillInitialRows : MethodName := ⟨RX4, "fillInitialRows", "([II)V"⟩
abbrev cX4_startRun : ByteArray := prog_6_method_20_code
def yX4_startRun : MethodName := ⟨RX4, "startRun", "()V"⟩
abbrev cX4_runHolds : ByteArray := prog_6_method_21_code
def yX4_runHolds : MethodName := ⟨RX4, "runHolds", "(II)Z"⟩
abbrev cX4_addToRun : ByteArray := prog_6_method_22_code
def yX4_addToRun : MethodName := ⟨RX4, "addToRun", "(II)I"⟩
abbrev cX4_countRun : ByteArray := prog_6_method_23_code
def yX4_countRun : MethodName := ⟨RX4, "countRun", "()I"⟩
def RX5 : String := "ConfinementAnalyzer$Text"
def TX5 : u_T := fun k => match k with
  | 0 => ("ConfinementAnalyzer$Text", "characters", "[I", true)
  | 1 => ("ConfinementAnalyzer$Text", "length", "I", false)
  | 2 => ("ConfinementAnalyzer$Text", "type", "I", false)
  | 3 => ("ConfinementAnalyzer$Text", "first", "I", false)
  | 4 => ("ConfinementAnalyzer$Text", "behind", "I", false)
  | _ => ("ConfinementAnalyzer$Text", "numbers", "[I", true)
def tyX5 : Nat → FieldType := fun k => match k with
  | 0 => .array .int
  | 1 => .int
  | 2 => .int
  | 3 => .int
  | 4 => .int
  | _ => .array .int
abbrev wsX50 : List Cond := u_ws RX5 TX5 6
theorem nmX5 : ∀ a, a < 6 → ∀ b, b < 6 → a ≠ b → (TX5 a).2.1 ≠ (TX5 b).2.1 := by decide +kernel
theorem tyX5_ok : ∀ k, k < 6 → parseFieldDescriptor (TX5 k).2.2.1 = some (tyX5 k) := by decide +kernel
abbrev cX5_init : ByteArray := prog_7_method_1_code
def yX5_init : MethodName := ⟨RX5, "<init>", "()V"⟩
abbrev cX5_readInto : ByteArray := prog_7_method_2_code
def yX5_readInto : MethodName := ⟨RX5, "readInto", "(LConfinementAnalyzer$State;)I"⟩
abbrev cX5_readStatement : ByteArray := prog_7_method_3_code
def yX5_readStatement : MethodName := ⟨RX5, "readStatement", "(LConfinementAnalyzer$State;)Z"⟩
abbrev cX5_isFull : ByteArray := prog_7_method_4_code
def yX5_isFull : MethodName := ⟨RX5, "isFull", "(LConfinementAnalyzer$State;I)Z"⟩
abbrev cX5_accepts : ByteArray := prog_7_method_5_code
def yX5_accepts : MethodName := ⟨RX5, "accepts", "(LConfinementAnalyzer$State;III)Z"⟩
abbrev cX5_perform : ByteArray := prog_7_method_6_code
def yX5_perform : MethodName := ⟨RX5, "perform", "(LConfinementAnalyzer$State;I)V"⟩
abbrev cX5_findStatement : ByteArray := prog_7_method_7_code
def yX5_findStatement : MethodName := ⟨RX5, "findStatement", "()I"⟩
abbrev cX5_tokenIs : ByteArray := prog_7_method_8_code
def yX5_tokenIs : MethodName := ⟨RX5, "tokenIs", "(Ljava/lang/String;)Z"⟩
abbrev cX5_numberValue : ByteArray := prog_7_method_9_code
def yX5_numberValue : MethodName := ⟨RX5, "numberValue", "()I"⟩
abbrev cX5_advance : ByteArray := prog_7_method_10_code
def yX5_advance : MethodName := ⟨RX5, "advance", "()V"⟩
abbrev cX5_typeOf : ByteArray := prog_7_method_11_code
def yX5_typeOf : MethodName := ⟨RX5, "typeOf", "(I)I"⟩
def RX6 : String := "ConfinementAnalyzer"
def TX6 : u_T := fun k => match k with
  | 0 => ("ConfinementAnalyzer", "text", "LConfinementAnalyzer$Text;", true)
  | 1 => ("ConfinementAnalyzer", "state", "LConfinementAnalyzer$State;", true)
  | 2 => ("ConfinementAnalyzer", "draft", "LConfinementAnalyzer$State;", true)
  | 3 => ("ConfinementAnalyzer", "history", "LConfinementAnalyzer$History;", true)
  | 4 => ("ConfinementAnalyzer", "roles", "LConfinementAnalyzer$Roles;", true)
  | 5 => ("ConfinementAnalyzer", "analysis", "LConfinementAnalyzer$Analysis;", true)
  | 6 => ("ConfinementAnalyzer", "coarse", "LConfinementAnalyzer$Closure;", true)
  | 7 => ("ConfinementAnalyzer", "trial", "LConfinementAnalyzer$Closure;", true)
  | _ => ("ConfinementAnalyzer", "analysed", "Z", false)
def tyX6 : Nat → FieldType := fun k => match k with
  | 0 => .object "ConfinementAnalyzer$Text"
  | 1 => .object "ConfinementAnalyzer$State"
  | 2 => .object "ConfinementAnalyzer$State"
  | 3 => .object "ConfinementAnalyzer$History"
  | 4 => .object "ConfinementAnalyzer$Roles"
  | 5 => .object "ConfinementAnalyzer$Analysis"
  | 6 => .object "ConfinementAnalyzer$Closure"
  | 7 => .object "ConfinementAnalyzer$Closure"
  | _ => .boolean
abbrev wsX60 : List Cond := u_ws RX6 TX6 9
theorem nmX6 : ∀ a, a < 9 → ∀ b, b < 9 → a ≠ b → (TX6 a).2.1 ≠ (TX6 b).2.1 := by decide +kernel
theorem tyX6_ok : ∀ k, k < 9 → parseFieldDescriptor (TX6 k).2.2.1 = some (tyX6 k) := by decide +kernel
abbrev cX6_init : ByteArray := prog_1_method_1_code
def yX6_init : MethodName := ⟨RX6, "<init>", "()V"⟩
abbrev cX6_append : ByteArray := prog_1_method_2_code
def yX6_append : MethodName := ⟨RX6, "append", "(I)I"⟩
abbrev cX6_clearText : ByteArray := prog_1_method_3_code
def yX6_clearText : MethodName := ⟨RX6, "clearText", "()I"⟩
abbrev cX6_load : ByteArray := prog_1_method_4_code
def yX6_load : MethodName := ⟨RX6, "load", "()I"⟩
abbrev cX6_objectCount : ByteArray := prog_1_method_5_code
def yX6_objectCount : MethodName := ⟨RX6, "objectCount", "()I"⟩
abbrev cX6_kind : ByteArray := prog_1_method_6_code
def yX6_kind : MethodName := ⟨RX6, "kind", "(I)I"⟩
abbrev cX6_behaviour : ByteArray := prog_1_method_7_code
def yX6_behaviour : MethodName := ⟨RX6, "behaviour", "(I)I"⟩
abbrev cX6_setBehaviour : ByteArray := prog_1_method_8_code
def yX6_setBehaviour : MethodName := ⟨RX6, "setBehaviour", "(II)I"⟩
abbrev cX6_setGroup : ByteArray := prog_1_method_9_code
def yX6_setGroup : MethodName := ⟨RX6, "setGroup", "(II)I"⟩
abbrev cX6_addReference : ByteArray := prog_1_method_10_code
def yX6_addReference : MethodName := ⟨RX6, "addReference", "(II)I"⟩
abbrev cX6_removeReference : ByteArray := prog_1_method_11_code
def yX6_removeReference : MethodName := ⟨RX6, "removeReference", "(I)I"⟩
abbrev cX6_referenceCount : ByteArray := prog_1_method_12_code
def yX6_referenceCount : MethodName := ⟨RX6, "referenceCount", "()I"⟩
abbrev cX6_mayHold : ByteArray := prog_1_method_13_code
def yX6_mayHold : MethodName := ⟨RX6, "mayHold", "(II)I"⟩
abbrev cX6_round : ByteArray := prog_1_method_14_code
def yX6_round : MethodName := ⟨RX6, "round", "(II)I"⟩
abbrev cX6_rule : ByteArray := prog_1_method_15_code
def yX6_rule : MethodName := ⟨RX6, "rule", "(II)I"⟩
abbrev cX6_partner : ByteArray := prog_1_method_16_code
def yX6_partner : MethodName := ⟨RX6, "partner", "(II)I"⟩
abbrev cX6_derivationSize : ByteArray := prog_1_method_17_code
def yX6_derivationSize : MethodName := ⟨RX6, "derivationSize", "(II)I"⟩
abbrev cX6_lastRound : ByteArray := prog_1_method_18_code
def yX6_lastRound : MethodName := ⟨RX6, "lastRound", "()I"⟩
abbrev cX6_coarselyMayHold : ByteArray := prog_1_method_19_code
def yX6_coarselyMayHold : MethodName := ⟨RX6, "coarselyMayHold", "(II)I"⟩
abbrev cX6_forbid : ByteArray := prog_1_method_20_code
def yX6_forbid : MethodName := ⟨RX6, "forbid", "(II)I"⟩
abbrev cX6_permit : ByteArray := prog_1_method_21_code
def yX6_permit : MethodName := ⟨RX6, "permit", "(II)I"⟩
abbrev cX6_violationCount : ByteArray := prog_1_method_22_code
def yX6_violationCount : MethodName := ⟨RX6, "violationCount", "()I"⟩
abbrev cX6_smallestRepair : ByteArray := prog_1_method_23_code
def yX6_smallestRepair : MethodName := ⟨RX6, "smallestRepair", "()I"⟩
abbrev cX6_give : ByteArray := prog_1_method_24_code
def yX6_give : MethodName := ⟨RX6, "give", "(III)I"⟩
abbrev cX6_take : ByteArray := prog_1_method_25_code
def yX6_take : MethodName := ⟨RX6, "take", "(III)I"⟩
abbrev cX6_open : ByteArray := prog_1_method_26_code
def yX6_open : MethodName := ⟨RX6, "open", "(III)I"⟩
abbrev cX6_create : ByteArray := prog_1_method_27_code
def yX6_create : MethodName := ⟨RX6, "create", "(II)I"⟩
abbrev cX6_restartRun : ByteArray := prog_1_method_28_code
def yX6_restartRun : MethodName := ⟨RX6, "restartRun", "()I"⟩
abbrev cX6_holdsInRun : ByteArray := prog_1_method_29_code
def yX6_holdsInRun : MethodName := ⟨RX6, "holdsInRun", "(II)I"⟩
abbrev cX6_undo : ByteArray := prog_1_method_30_code
def yX6_undo : MethodName := ⟨RX6, "undo", "()I"⟩
abbrev cX6_undoDepth : ByteArray := prog_1_method_31_code
def yX6_undoDepth : MethodName := ⟨RX6, "undoDepth", "()I"⟩
abbrev cX6_saveState : ByteArray := prog_1_method_32_code
def yX6_saveState : MethodName := ⟨RX6, "saveState", "()V"⟩
abbrev cX6_refreshAnalysis : ByteArray := prog_1_method_33_code
def yX6_refreshAnalysis : MethodName := ⟨RX6, "refreshAnalysis", "()V"⟩
abbrev cX6_findNeeded : ByteArray := prog_1_method_34_code
def yX6_findNeeded : MethodName := ⟨RX6, "findNeeded", "(I)I"⟩
abbrev cX6_isRepair : ByteArray := prog_1_method_35_code
def yX6_isRepair : MethodName := ⟨RX6, "isRepair", "(I)Z"⟩
abbrev cX6_bit : ByteArray := prog_1_method_36_code
def yX6_bit : MethodName := ⟨RX6, "bit", "(I)I"⟩
abbrev cX6_contains : ByteArray := prog_1_method_37_code
def yX6_contains : MethodName := ⟨RX6, "contains", "(II)Z"⟩
abbrev cX6_pair : ByteArray := prog_1_method_38_code
def yX6_pair : MethodName := ⟨RX6, "pair", "(II)I"⟩
abbrev cX6_lowest : ByteArray := prog_1_method_39_code
def yX6_lowest : MethodName := ⟨RX6, "lowest", "(I)I"⟩
def RX7 : String := "ConfinementAnalyzerModel"
def TX7 : u_T := fun k => match k with
  | 0 => ("ConfinementAnalyzerModel", "thrown", "I", false)
  | 1 => ("ConfinementAnalyzerModel", "s", "[I", true)
  | 2 => ("ConfinementAnalyzerModel", "draft", "[I", true)
  | 3 => ("ConfinementAnalyzerModel", "history", "[I", true)
  | 4 => ("ConfinementAnalyzerModel", "depth", "I", false)
  | 5 => ("ConfinementAnalyzerModel", "text", "[I", true)
  | 6 => ("ConfinementAnalyzerModel", "length", "I", false)
  | 7 => ("ConfinementAnalyzerModel", "next", "I", false)
  | 8 => ("ConfinementAnalyzerModel", "start", "I", false)
  | 9 => ("ConfinementAnalyzerModel", "token", "I", false)
  | 10 => ("ConfinementAnalyzerModel", "value", "I", false)
  | 11 => ("ConfinementAnalyzerModel", "error", "I", false)
  | 12 => ("ConfinementAnalyzerModel", "rounds", "[I", true)
  | 13 => ("ConfinementAnalyzerModel", "last", "I", false)
  | 14 => ("ConfinementAnalyzerModel", "isDerived", "[Z", true)
  | 15 => ("ConfinementAnalyzerModel", "derived", "[I", true)
  | _ => ("ConfinementAnalyzerModel", "derivedCount", "I", false)
def tyX7 : Nat → FieldType := fun k => match k with
  | 0 => .int
  | 1 => .array .int
  | 2 => .array .int
  | 3 => .array .int
  | 4 => .int
  | 5 => .array .int
  | 6 => .int
  | 7 => .int
  | 8 => .int
  | 9 => .int
  | 10 => .int
  | 11 => .int
  | 12 => .array .int
  | 13 => .int
  | 14 => .array .boolean
  | 15 => .array .int
  | _ => .int
abbrev wsX70 : List Cond := u_ws RX7 TX7 17
theorem nmX7 : ∀ a, a < 17 → ∀ b, b < 17 → a ≠ b → (TX7 a).2.1 ≠ (TX7 b).2.1 := by decide +kernel
theorem tyX7_ok : ∀ k, k < 17 → parseFieldDescriptor (TX7 k).2.2.1 = some (tyX7 k) := by decide +kernel
abbrev cX7_init : ByteArray := prog_9_method_1_code
def yX7_init : MethodName := ⟨RX7, "<init>", "()V"⟩
abbrev cX7_in : ByteArray := prog_9_method_3_code
def yX7_in : MethodName := ⟨RX7, "in", "(III)Z"⟩
abbrev cX7_has : ByteArray := prog_9_method_4_code
def yX7_has : MethodName := ⟨RX7, "has", "(II)Z"⟩
abbrev cX7_bitCount : ByteArray := prog_9_method_5_code
def yX7_bitCount : MethodName := ⟨RX7, "bitCount", "(I)I"⟩
abbrev cX7_characterAt : ByteArray := prog_9_method_6_code
def yX7_characterAt : MethodName := ⟨RX7, "characterAt", "(I)I"⟩
abbrev cX7_isLetter : ByteArray := prog_9_method_7_code
def yX7_isLetter : MethodName := ⟨RX7, "isLetter", "(II)Z"⟩
abbrev cX7_keyword : ByteArray := prog_9_method_8_code
def yX7_keyword : MethodName := ⟨RX7, "keyword", "()I"⟩
abbrev cX7_advance : ByteArray := prog_9_method_9_code
def yX7_advance : MethodName := ⟨RX7, "advance", "()V"⟩
abbrev cX7_isFine : ByteArray := prog_9_method_10_code
def yX7_isFine : MethodName := ⟨RX7, "isFine", "()Z"⟩
abbrev cX7_take : ByteArray := prog_9_method_11_code
def yX7_take : MethodName := ⟨RX7, "take", "(Z)I"⟩
abbrev cX7_number : ByteArray := prog_9_method_12_code
def yX7_number : MethodName := ⟨RX7, "number", "(I)I"⟩
abbrev cX7_readObject : ByteArray := prog_9_method_13_code
def yX7_readObject : MethodName := ⟨RX7, "readObject", "(I)V"⟩
abbrev cX7_isHolder : ByteArray := prog_9_method_14_code
def yX7_isHolder : MethodName := ⟨RX7, "isHolder", "([II)Z"⟩
abbrev cX7_indexOf : ByteArray := prog_9_method_15_code
def yX7_indexOf : MethodName := ⟨RX7, "indexOf", "([III)I"⟩
abbrev cX7_readHold : ByteArray := prog_9_method_16_code
def yX7_readHold : MethodName := ⟨RX7, "readHold", "()V"⟩
abbrev cX7_append : ByteArray := prog_9_method_17_code
def yX7_append : MethodName := ⟨RX7, "append", "(I)I"⟩
abbrev cX7_clearText : ByteArray := prog_9_method_18_code
def yX7_clearText : MethodName := ⟨RX7, "clearText", "()I"⟩
abbrev cX7_load : ByteArray := prog_9_method_19_code
def yX7_load : MethodName := ⟨RX7, "load", "()I"⟩
abbrev cX7_save : ByteArray := prog_9_method_20_code
def yX7_save : MethodName := ⟨RX7, "save", "()V"⟩
abbrev cX7_beginRun : ByteArray := prog_9_method_21_code
def yX7_beginRun : MethodName := ⟨RX7, "beginRun", "()V"⟩
abbrev cX7_isObject : ByteArray := prog_9_method_22_code
def yX7_isObject : MethodName := ⟨RX7, "isObject", "(I)Z"⟩
abbrev cX7_areObjects : ByteArray := prog_9_method_23_code
def yX7_areObjects : MethodName := ⟨RX7, "areObjects", "(II)Z"⟩
abbrev cX7_isOf : ByteArray := prog_9_method_24_code
def yX7_isOf : MethodName := ⟨RX7, "isOf", "(II)Z"⟩
abbrev cX7_does : ByteArray := prog_9_method_25_code
def yX7_does : MethodName := ⟨RX7, "does", "(II)Z"⟩
abbrev cX7_objectCount : ByteArray := prog_9_method_26_code
def yX7_objectCount : MethodName := ⟨RX7, "objectCount", "()I"⟩
abbrev cX7_kind : ByteArray := prog_9_method_27_code
def yX7_kind : MethodName := ⟨RX7, "kind", "(I)I"⟩
abbrev cX7_behaviour : ByteArray := prog_9_method_28_code
def yX7_behaviour : MethodName := ⟨RX7, "behaviour", "(I)I"⟩
abbrev cX7_change : ByteArray := prog_9_method_29_code
def yX7_change : MethodName := ⟨RX7, "change", "(II)I"⟩
abbrev cX7_setBehaviour : ByteArray := prog_9_method_30_code
def yX7_setBehaviour : MethodName := ⟨RX7, "setBehaviour", "(II)I"⟩
abbrev cX7_setGroup : ByteArray := prog_9_method_31_code
def yX7_setGroup : MethodName := ⟨RX7, "setGroup", "(II)I"⟩
abbrev cX7_addReference : ByteArray := prog_9_method_32_code
def yX7_addReference : MethodName := ⟨RX7, "addReference", "(II)I"⟩
abbrev cX7_removeReference : ByteArray := prog_9_method_33_code
def yX7_removeReference : MethodName := ⟨RX7, "removeReference", "(I)I"⟩
abbrev cX7_referenceCount : ByteArray := prog_9_method_34_code
def yX7_referenceCount : MethodName := ⟨RX7, "referenceCount", "()I"⟩
abbrev cX7_isFound : ByteArray := prog_9_method_35_code
def yX7_isFound : MethodName := ⟨RX7, "isFound", "(III)Z"⟩
abbrev cX7_giver : ByteArray := prog_9_method_36_code
def yX7_giver : MethodName := ⟨RX7, "giver", "(III)I"⟩
abbrev cX7_answerer : ByteArray := prog_9_method_37_code
def yX7_answerer : MethodName := ⟨RX7, "answerer", "(III)I"⟩
abbrev cX7_keyOf : ByteArray := prog_9_method_38_code
def yX7_keyOf : MethodName := ⟨RX7, "keyOf", "(III)I"⟩
abbrev cX7_openedBox : ByteArray := prog_9_method_39_code
def yX7_openedBox : MethodName := ⟨RX7, "openedBox", "(III)I"⟩
abbrev cX7_creator : ByteArray := prog_9_method_40_code
def yX7_creator : MethodName := ⟨RX7, "creator", "(III)I"⟩
abbrev cX7_userOf : ByteArray := prog_9_method_41_code
def yX7_userOf : MethodName := ⟨RX7, "userOf", "(II)I"⟩
abbrev cX7_endower : ByteArray := prog_9_method_42_code
def yX7_endower : MethodName := ⟨RX7, "endower", "(III)I"⟩
abbrev cX7_partnerBy : ByteArray := prog_9_method_43_code
def yX7_partnerBy : MethodName := ⟨RX7, "partnerBy", "(IIII)I"⟩
abbrev cX7_ruleFor : ByteArray := prog_9_method_44_code
def yX7_ruleFor : MethodName := ⟨RX7, "ruleFor", "(III)I"⟩
abbrev cX7_analyse : ByteArray := prog_9_method_45_code
def yX7_analyse : MethodName := ⟨RX7, "analyse", "(I)V"⟩
abbrev cX7_findRound : ByteArray := prog_9_method_46_code
def yX7_findRound : MethodName := ⟨RX7, "findRound", "(I)Z"⟩
abbrev cX7_roundOf : ByteArray := prog_9_method_47_code
def yX7_roundOf : MethodName := ⟨RX7, "roundOf", "(II)I"⟩
abbrev cX7_mayHold : ByteArray := prog_9_method_48_code
def yX7_mayHold : MethodName := ⟨RX7, "mayHold", "(II)I"⟩
abbrev cX7_round : ByteArray := prog_9_method_49_code
def yX7_round : MethodName := ⟨RX7, "round", "(II)I"⟩
abbrev cX7_rule : ByteArray := prog_9_method_50_code
def yX7_rule : MethodName := ⟨RX7, "rule", "(II)I"⟩
abbrev cX7_partner : ByteArray := prog_9_method_51_code
def yX7_partner : MethodName := ⟨RX7, "partner", "(II)I"⟩
abbrev cX7_derive : ByteArray := prog_9_method_52_code
def yX7_derive : MethodName := ⟨RX7, "derive", "(II)V"⟩
abbrev cX7_derivePremises : ByteArray := prog_9_method_53_code
def yX7_derivePremises : MethodName := ⟨RX7, "derivePremises", "(II)V"⟩
abbrev cX7_derivationSize : ByteArray := prog_9_method_54_code
def yX7_derivationSize : MethodName := ⟨RX7, "derivationSize", "(II)I"⟩
abbrev cX7_lastRound : ByteArray := prog_9_method_55_code
def yX7_lastRound : MethodName := ⟨RX7, "lastRound", "()I"⟩
abbrev cX7_merge : ByteArray := prog_9_method_56_code
def yX7_merge : MethodName := ⟨RX7, "merge", "()Z"⟩
abbrev cX7_mergeGroups : ByteArray := prog_9_method_57_code
def yX7_mergeGroups : MethodName := ⟨RX7, "mergeGroups", "(II)Z"⟩
abbrev cX7_coarselyMayHold : ByteArray := prog_9_method_58_code
def yX7_coarselyMayHold : MethodName := ⟨RX7, "coarselyMayHold", "(II)I"⟩
abbrev cX7_requirementOf : ByteArray := prog_9_method_59_code
def yX7_requirementOf : MethodName := ⟨RX7, "requirementOf", "(II)I"⟩
abbrev cX7_forbid : ByteArray := prog_9_method_60_code
def yX7_forbid : MethodName := ⟨RX7, "forbid", "(II)I"⟩
abbrev cX7_permit : ByteArray := prog_9_method_61_code
def yX7_permit : MethodName := ⟨RX7, "permit", "(II)I"⟩
abbrev cX7_violations : ByteArray := prog_9_method_62_code
def yX7_violations : MethodName := ⟨RX7, "violations", "()I"⟩
abbrev cX7_violationCount : ByteArray := prog_9_method_63_code
def yX7_violationCount : MethodName := ⟨RX7, "violationCount", "()I"⟩
abbrev cX7_smallestRepair : ByteArray := prog_9_method_64_code
def yX7_smallestRepair : MethodName := ⟨RX7, "smallestRepair", "()I"⟩
abbrev cX7_holds : ByteArray := prog_9_method_65_code
def yX7_holds : MethodName := ⟨RX7, "holds", "(II)Z"⟩
abbrev cX7_saveAndHold : ByteArray := prog_9_method_66_code
def yX7_saveAndHold : MethodName := ⟨RX7, "saveAndHold", "(II)I"⟩
abbrev cX7_give : ByteArray := prog_9_method_67_code
def yX7_give : MethodName := ⟨RX7, "give", "(III)I"⟩
abbrev cX7_take_ : ByteArray := prog_9_method_68_code
def yX7_take_ : MethodName := ⟨RX7, "take", "(III)I"⟩
abbrev cX7_open : ByteArray := prog_9_method_69_code
def yX7_open : MethodName := ⟨RX7, "open", "(III)I"⟩
abbrev cX7_create : ByteArray := prog_9_method_70_code
def yX7_create : MethodName := ⟨RX7, "create", "(II)I"⟩
abbrev cX7_restartRun : ByteArray := prog_9_method_71_code
def yX7_restartRun : MethodName := ⟨RX7, "restartRun", "()I"⟩
abbrev cX7_holdsInRun : ByteArray := prog_9_method_72_code
def yX7_holdsInRun : MethodName := ⟨RX7, "holdsInRun", "(II)I"⟩
abbrev cX7_undo : ByteArray := prog_9_method_73_code
def yX7_undo : MethodName := ⟨RX7, "undo", "()I"⟩
abbrev cX7_undoDepth : ByteArray := prog_9_method_74_code
def yX7_undoDepth : MethodName := ⟨RX7, "undoDepth", "()I"⟩
def RJ6 : String := "java/lang/Integer"
def TJ6 : u_T := fun k => match k with
  | _ => ("", "", "", false)
def tyJ6 : Nat → FieldType := fun k => match k with
  | _ => .int
abbrev wsJ60 : List Cond := u_ws RJ6 TJ6 0
theorem nmJ6 : ∀ a, a < 0 → ∀ b, b < 0 → a ≠ b → (TJ6 a).2.1 ≠ (TJ6 b).2.1 := by decide +kernel
theorem tyJ6_ok : ∀ k, k < 0 → parseFieldDescriptor (TJ6 k).2.2.1 = some (tyJ6 k) := by decide +kernel
abbrev cJ6_bitCount_0f7a4 : ByteArray := prog_10_method_49_code
def yJ6_bitCount_0f7a4 : MethodName := ⟨RJ6, "bitCount", "(I)I"⟩
def RJ9 : String := "java/lang/Math"
def TJ9 : u_T := fun k => match k with
  | _ => ("", "", "", false)
def tyJ9 : Nat → FieldType := fun k => match k with
  | _ => .int
abbrev wsJ90 : List Cond := u_ws RJ9 TJ9 0
theorem nmJ9 : ∀ a, a < 0 → ∀ b, b < 0 → a ≠ b → (TJ9 a).2.1 ≠ (TJ9 b).2.1 := by decide +kernel
theorem tyJ9_ok : ∀ k, k < 0 → parseFieldDescriptor (TJ9 k).2.2.1 = some (tyJ9 k) := by decide +kernel
abbrev cJ9_min_7cf53 : ByteArray := prog_11_method_69_code
def yJ9_min_7cf53 : MethodName := ⟨RJ9, "min", "(II)I"⟩
def RJ0 : String := "java/lang/String"
def TJ0 : u_T := fun k => match k with
  | _ => ("", "", "", false)
def tyJ0 : Nat → FieldType := fun k => match k with
  | _ => .int
abbrev wsJ00 : List Cond := u_ws RJ0 TJ0 0
theorem nmJ0 : ∀ a, a < 0 → ∀ b, b < 0 → a ≠ b → (TJ0 a).2.1 ≠ (TJ0 b).2.1 := by decide +kernel
theorem tyJ0_ok : ∀ k, k < 0 → parseFieldDescriptor (TJ0 k).2.2.1 = some (tyJ0 k) := by decide +kernel
abbrev cJ0_length_8abf5 : ByteArray := prog_12_method_54_code
def yJ0_length_8abf5 : MethodName := ⟨RJ0, "length", "()I"⟩
abbrev cJ0_charAt_5068e : ByteArray := prog_12_method_56_code
def yJ0_charAt_5068e : MethodName := ⟨RJ0, "charAt", "(I)C"⟩
abbrev cJ0_coder_7d493 : ByteArray := prog_12_method_152_code
def yJ0_coder_7d493 : MethodName := ⟨RJ0, "coder", "()B"⟩
abbrev cJ0_isLatin1_aae02 : ByteArray := prog_12_method_154_code
def yJ0_isLatin1_aae02 : MethodName := ⟨RJ0, "isLatin1", "()Z"⟩
abbrev cJ0_checkIndex_df160 : ByteArray := prog_12_method_155_code
def yJ0_checkIndex_df160 : MethodName := ⟨RJ0, "checkIndex", "(II)V"⟩
def RJ1 : String := "java/lang/StringLatin1"
def TJ1 : u_T := fun k => match k with
  | _ => ("", "", "", false)
def tyJ1 : Nat → FieldType := fun k => match k with
  | _ => .int
abbrev wsJ10 : List Cond := u_ws RJ1 TJ1 0
theorem nmJ1 : ∀ a, a < 0 → ∀ b, b < 0 → a ≠ b → (TJ1 a).2.1 ≠ (TJ1 b).2.1 := by decide +kernel
theorem tyJ1_ok : ∀ k, k < 0 → parseFieldDescriptor (TJ1 k).2.2.1 = some (tyJ1 k) := by decide +kernel
abbrev cJ1_charAt_3b067 : ByteArray := prog_13_method_2_code
def yJ1_charAt_3b067 : MethodName := ⟨RJ1, "charAt", "([BI)C"⟩
def RJ2 : String := "java/lang/StringUTF16"
def TJ2 : u_T := fun k => match k with
  | _ => ("", "", "", false)
def tyJ2 : Nat → FieldType := fun k => match k with
  | _ => .int
abbrev wsJ20 : List Cond := u_ws RJ2 TJ2 0
theorem nmJ2 : ∀ a, a < 0 → ∀ b, b < 0 → a ≠ b → (TJ2 a).2.1 ≠ (TJ2 b).2.1 := by decide +kernel
theorem tyJ2_ok : ∀ k, k < 0 → parseFieldDescriptor (TJ2 k).2.2.1 = some (tyJ2 k) := by decide +kernel
abbrev cJ2_getChar_3b067 : ByteArray := prog_14_method_5_code
def yJ2_getChar_3b067 : MethodName := ⟨RJ2, "getChar", "([BI)C"⟩
abbrev cJ2_length_9d52b : ByteArray := prog_14_method_6_code
def yJ2_length_9d52b : MethodName := ⟨RJ2, "length", "([B)I"⟩
abbrev cJ2_charAt_3b067 : ByteArray := prog_14_method_83_code
def yJ2_charAt_3b067 : MethodName := ⟨RJ2, "charAt", "([BI)C"⟩
abbrev cJ2_checkIndex_2214a : ByteArray := prog_14_method_91_code
def yJ2_checkIndex_2214a : MethodName := ⟨RJ2, "checkIndex", "(I[B)V"⟩
def RJ10 : String := "java/lang/System"
def TJ10 : u_T := fun k => match k with
  | _ => ("", "", "", false)
def tyJ10 : Nat → FieldType := fun k => match k with
  | _ => .int
abbrev wsJ100 : List Cond := u_ws RJ10 TJ10 0
theorem nmJ10 : ∀ a, a < 0 → ∀ b, b < 0 → a ≠ b → (TJ10 a).2.1 ≠ (TJ10 b).2.1 := by decide +kernel
theorem tyJ10_ok : ∀ k, k < 0 → parseFieldDescriptor (TJ10 k).2.2.1 = some (tyJ10 k) := by decide +kernel
def RJ7 : String := "java/util/Arrays"
def TJ7 : u_T := fun k => match k with
  | _ => ("", "", "", false)
def tyJ7 : Nat → FieldType := fun k => match k with
  | _ => .int
abbrev wsJ70 : List Cond := u_ws RJ7 TJ7 0
theorem nmJ7 : ∀ a, a < 0 → ∀ b, b < 0 → a ≠ b → (TJ7 a).2.1 ≠ (TJ7 b).2.1 := by decide +kernel
theorem tyJ7_ok : ∀ k, k < 0 → parseFieldDescriptor (TJ7 k).2.2.1 = some (tyJ7 k) := by decide +kernel
abbrev cJ7_fill_53178 : ByteArray := prog_16_method_103_code
def yJ7_fill_53178 : MethodName := ⟨RJ7, "fill", "([II)V"⟩
def RJ3 : String := "jdk/internal/util/Preconditions"
def TJ3 : u_T := fun k => match k with
  | _ => ("", "", "", false)
def tyJ3 : Nat → FieldType := fun k => match k with
  | _ => .int
abbrev wsJ30 : List Cond := u_ws RJ3 TJ3 0
theorem nmJ3 : ∀ a, a < 0 → ∀ b, b < 0 → a ≠ b → (TJ3 a).2.1 ≠ (TJ3 b).2.1 := by decide +kernel
theorem tyJ3_ok : ∀ k, k < 0 → parseFieldDescriptor (TJ3 k).2.2.1 = some (tyJ3 k) := by decide +kernel
abbrev cJ3_checkIndex_8e157 : ByteArray := prog_17_method_11_code
def yJ3_checkIndex_8e157 : MethodName := ⟨RJ3, "checkIndex", "(IILjava/util/function/BiFunction;)I"⟩
def RL : String := "ConfinementAnalyzerLaw"
abbrev cL_law : ByteArray := code
def yL_law : MethodName := ⟨RL, "law", "([I)Z"⟩
abbrev vwCl : List vw_C := [(RX0, TX0, 11), (RX1, TX1, 2), (RX2, TX2, 3), (RX3, TX3, 12), (RX4, TX4, 12), (RX5, TX5, 6), (RX6, TX6, 9), (RX7, TX7, 17)]
end
section
/-! A thin layer over the kit: one fixed world of 104 cells, its contents a function g (cell, place -> int); AW: from here the method comes to its end with P; Runs: a call of a method comes to its end with P. -/
abbrev AV : Type := Int32 ⊕ Nat
abbrev Mem : Type := Nat → Nat → Int32
abbrev Gam : Type := Launch × (Nat → ClassId) × (Nat → Nat → Nat) × (Nat → Nat) × (Nat → ClassId) × (Nat → Nat) × (Nat → Nat)
abbrev Mi : Type := ByteArray × String × Nat × Option FieldType
abbrev Shp : Type := (Nat × List (Option Nat)) ⊕ (Nat × Nat) ⊕ List Nat
def shS (b : Nat) : List Shp := [.inl (4, [none, some (b + 1), some (b + 2), some (b + 3), some (b + 4), none, some (b + 5), some (b + 6), none, some (b + 7), some (b + 8), some (b + 9)]), .inr (.inl (0, 10)), .inr (.inl (0, 10)), .inr (.inl (0, 10)), .inr (.inl (0, 10)), .inr (.inl (0, 10)), .inr (.inl (0, 10)), .inr (.inl (0, 4)), .inr (.inl (0, 4)), .inr (.inl (0, 10))]
/-- what each cell is: an object (its place in vwCl; for each field the cell that it refers to, or none for a number), an array of ints (0) or booleans (1), an array of references -/
def shL : List Shp := [
  .inl (6, [some 1, some 34, some 44, some 4, some 6, some 12, some 22, some 24, none]),
  .inl (5, [some 2, none, none, none, none, some 3]), .inr (.inl (0, 160)), .inr (.inl (0, 3)),
  .inl (2, [some 5, none, none]), .inr (.inr [54, 64, 74, 84, 94]),
  .inl (3, [none, none, none, none, none, none, none, some 7, some 8, some 9, some 10, some 11]), .inr (.inl (0, 10)), .inr (.inl (0, 10)), .inr (.inl (0, 10)), .inr (.inl (0, 10)), .inr (.inl (0, 10)),
  .inl (0, [some 13, some 14, some 15, some 16, some 17, some 18, some 19, none, some 20, some 21, none]), .inr (.inl (0, 10)), .inr (.inl (0, 10)), .inr (.inl (0, 100)), .inr (.inl (0, 100)), .inr (.inl (0, 100)), .inr (.inl (0, 100)), .inr (.inl (0, 100)), .inr (.inl (0, 100)), .inr (.inl (0, 100)),
  .inl (1, [some 23, none]), .inr (.inl (0, 10)),
  .inl (1, [some 25, none]), .inr (.inl (0, 10)),
  .inl (7, [none, some 27, some 28, some 29, none, some 30, none, none, none, none, none, none, some 31, none, some 32, some 33, none]),
  .inr (.inl (0, 81)), .inr (.inl (0, 81)), .inr (.inl (0, 405)), .inr (.inl (0, 160)), .inr (.inl (0, 100)), .inr (.inl (1, 100)), .inr (.inl (0, 100))] ++ shS 34 ++ shS 44 ++ shS 54 ++ shS 64 ++ shS 74 ++ shS 84 ++ shS 94
def shp (k : Nat) : Shp := shL.getD k (.inr (.inr []))
def avV (ad : Nat → Nat) (v : AV) : Value := match v with
  | .inl x => .int x
  | .inr k => .ref (ad k)
def fv1 (ad : Nat → Nat) (f : Nat → Int32) (j : Nat) (t : Option Nat) : Value := match t with
  | none => .int (f j)
  | some q => .ref (ad q)
def fldV (ad : Nat → Nat) (f : Nat → Int32) (fl : List (Option Nat)) : List Value := fl.zipIdx.map (fun q => fv1 ad f q.2 q.1)
def cellE (Γ : Gam) (k : Nat) (g : Mem) : va_E := match shp k with
  | .inl q => .inr (q.1, fldV Γ.2.2.2.1 (g k) q.2)
  | .inr (.inl q) => .inl (Γ.2.2.2.2.1 q.1, q.2, .inl (g k))
  | .inr (.inr L) => .inl (Γ.2.2.2.2.1 2, L.length, .inr (.inr (.inr (.inr (fun j => (L[j]?).map Γ.2.2.2.1)))))
def wd (Γ : Gam) (g : Mem) : va_W := (List.range 104).map (fun k => (Γ.2.2.2.1 k, cellE Γ k g))
abbrev dd (Γ : Gam) : va_G := (Γ.2.1, Γ.2.2.1)
def tys3 (Γ : Gam) : List (ClassId × FieldType) := [(Γ.2.2.2.2.1 0, .int), (Γ.2.2.2.2.1 1, .boolean), (Γ.2.2.2.2.1 2, .object "ConfinementAnalyzer$State")]
def fr (Γ : Gam) : Nat → Prop := fun q => ∃ k, k < 104 ∧ q = Γ.2.2.2.1 k
def up (g : Mem) (k i : Nat) (v : Int32) : Mem := fun a => if a = k then upd (g k) i v else g a
theorem up_same (g : Mem) (k i : Nat) (v : Int32) : up g k i v k = upd (g k) i v := by simp [up]
theorem up_ne {g : Mem} {k i a : Nat} {v : Int32} (h : a ≠ k) : up g k i v a = g a := by simp [up, h]
theorem wd_at {Γ : Gam} {g : Mem} {k : Nat} (h : k < 104) : (wd Γ g)[k]? = some (Γ.2.2.2.1 k, cellE Γ k g) := by
  simp [wd, h]
theorem wd_len {Γ : Gam} {g : Mem} : (wd Γ g).length = 104 := by simp [wd]
theorem cellE_ext {Γ : Gam} {g g' : Mem} {k : Nat} (h : g' k = g k) : cellE Γ k g' = cellE Γ k g := by
  unfold cellE
  rw [h]
theorem wd_set {Γ : Gam} {g g' : Mem} {k : Nat} {e : va_E} (hk : k < 104) (he : cellE Γ k g' = e) (ho : ∀ j, j ≠ k → g' j = g j) : (wd Γ g).set k (Γ.2.2.2.1 k, e) = wd Γ g' := by
  apply List.ext_getElem?
  intro j
  by_cases hj : j = k
  · subst hj
    rw [List.getElem?_set_self (by rw [wd_len]; exact hk), wd_at hk, he]
  · rw [List.getElem?_set_ne (Ne.symm hj)]
    by_cases h2 : j < 104
    · rw [wd_at h2, wd_at h2, cellE_ext (ho j hj)]
    · rw [List.getElem?_eq_none (by rw [wd_len]; omega), List.getElem?_eq_none (by rw [wd_len]; omega)]
theorem fldV_at {ad : Nat → Nat} {f : Nat → Int32} {fl : List (Option Nat)} {j : Nat} {t : Option Nat} (h : fl[j]? = some t) : (fldV ad f fl)[j]? = some (fv1 ad f j t) := by
  simp [fldV, List.getElem?_map, List.getElem?_zipIdx, h]
theorem fldV_set {ad : Nat → Nat} {f : Nat → Int32} {fl : List (Option Nat)} {j : Nat} {x : Int32} (h : fl[j]? = some none) : (fldV ad f fl).set j (.int x) = fldV ad (upd f j x) fl := by
  apply List.ext_getElem?
  intro i
  by_cases hi : i = j
  · subst hi
    have hl : i < (fldV ad f fl).length := by
      have := (List.getElem?_eq_some_iff.mp h).1
      simpa [fldV] using this
    rw [List.getElem?_set_self hl, fldV_at h]
    simp [fv1, upd]
  · rw [List.getElem?_set_ne (Ne.symm hi)]
    cases ht : fl[i]? with
    | none =>
      simp [fldV, List.getElem?_map, List.getElem?_zipIdx, ht]
    | some t =>
      rw [fldV_at ht, fldV_at ht]
      cases t <;> simp [fv1, upd, hi]
/-- the strings' lengths and bytes, in the order of their uses -/
def sLen : List Nat := [5, 3, 3, 7, 4]
def sByt : List (List Int32) := [[97, 103, 101, 110, 116], [98, 111, 120], [107, 101, 121], [102, 97, 99, 116, 111, 114, 121], [104, 111, 108, 100]]
def sIdx : List (Nat × String) := [(90, "agent"), (96, "box"), (98, "key"), (100, "factory"), (102, "hold")]
def StrOk (Γ : Gam) (U : State) (H : Heap) : Prop := vk_S 5 sLen sByt Γ.2.2.2.2.2.1 Γ.2.2.2.2.2.2 (fr Γ) U H ∧ (∀ i q, sIdx[i]? = some q → vk_R RX5 q.1 q.2 (Γ.2.2.2.2.2.1 i) U) ∧ va_Z "java/lang/String" "COMPACT_STRINGS" "Z" (.int 1) (fr Γ) U H ∧ va_Zq "jdk/internal/util/Preconditions" "SIOOBE_FORMATTER" "Ljava/util/function/BiFunction;" (fr Γ) U H ∧ ∀ i, Γ.2.2.2.1 (200 + i) = Γ.2.2.2.2.2.1 i
def GW : List Cond := lw_tbl.filter goodWord
theorem gw_good {w : Cond} (h : w ∈ GW) : (w.onTables && w.keeps) = true ∨ ∃ ty, w = .arrayClass ty := good_of_word (List.mem_filter.mp h).2
theorem gw_of {w : Cond} (i : Nat) (h : lw_tbl[i]? = some w) (hg : goodWord w = true) : w ∈ GW := List.mem_filter.mpr ⟨List.mem_of_getElem? h, hg⟩
theorem gw_all (ws : List Cond) (ps : List Nat) (hp : ps.map (fun i => lw_tbl[i]?) = ws.map some) (h : ws.all goodWord = true) : ∀ w ∈ ws, w ∈ GW := by
  intro w hw
  have h1 : some w ∈ ws.map some := List.mem_map.mpr ⟨w, hw, rfl⟩
  rw [← hp] at h1
  obtain ⟨i, -, hi⟩ := List.mem_map.mp h1
  exact gw_of i hi (List.all_eq_true.mp h w hw)
/-- the calls over a nest: who calls, the place, the method, the host -/
def NWok (U : State) (L : List (String × Nat × MethodName × String)) : Prop := ∀ q ∈ L, va_Nw (.methodLinkNest q.1 q.2.1 q.2.2.1 q.2.2.2) U
def nestL : List (String × Nat × MethodName × String) := lw_tbl.filterMap (fun w => match w with
  | .methodLinkNest a i y h => some (a, i, y, h)
  | _ => none)
def Tb (Γ : Gam) (U : State) (H : Heap) : Prop := va_K (dd Γ) vwCl (tys3 Γ) U ∧ NWok U nestL ∧ StrOk Γ U H ∧ ∀ i j, i < 104 → j < 104 → Γ.2.2.2.1 i = Γ.2.2.2.1 j → i = j
theorem StrOk.kept {Γ : Gam} {U : State} {H H1 : Heap} (h : StrOk Γ U H) (hq : ∀ a : Nat, a < H.size → ¬ fr Γ a → H1[a]? = H[a]?) : StrOk Γ U H1 := ⟨h.1.kept hq, h.2.1, h.2.2.1.kept hq, h.2.2.2.1.kept hq, h.2.2.2.2⟩
theorem StrOk.warm {Γ : Gam} {s U : State} {H : Heap} (hW : s.WarmedH U.vm) (h : StrOk Γ s H) : StrOk Γ U H := ⟨h.1.moved hW.alike, fun i q hq => (h.2.1 i q hq).warm hW, h.2.2.1.moved hW.alike, h.2.2.2.1.moved hW.alike, h.2.2.2.2⟩
theorem Tb.warm {Γ : Gam} {s U : State} {H H1 : Heap} (hW : s.WarmedH U.vm) (h : Tb Γ s H) (hq : ∀ a : Nat, a < H.size → ¬ fr Γ a → H1[a]? = H[a]?) : Tb Γ U H1 := ⟨va_K.moved hW.alike h.1, fun q hm => (h.2.1 q hm).warmM hW, (h.2.2.1.warm hW).kept hq, h.2.2.2⟩
theorem Tb.same {Γ : Gam} {u U : State} {H : Heap} (hv : U.vm = u.vm) (h : Tb Γ u H) : Tb Γ U H := by
  have ha : u.vm.Alike U.vm := by rw [hv]; exact Vm.Alike.refl u.vm
  exact ⟨va_K.moved ha h.1, fun q hm => va_Nw.same rfl hv.symm (h.2.1 q hm), ⟨h.2.2.1.1.moved ha, fun i q hq => (h.2.2.1.2.1 i q hq).same hv, h.2.2.1.2.2.1.moved ha, h.2.2.1.2.2.2.1.moved ha, h.2.2.1.2.2.2.2⟩, h.2.2.2⟩
theorem wd_D {Γ : Gam} {U : State} {H : Heap} (h : Tb Γ U H) (g : Mem) : va_D (fr Γ) (wd Γ g) := by
  have at' : ∀ (k : Nat) (q : Nat × va_E), (wd Γ g)[k]? = some q → k < 104 ∧ q.1 = Γ.2.2.2.1 k := by
    intro k q hk
    have hl : k < 104 := by
      have := (List.getElem?_eq_some_iff.mp hk).1
      rwa [wd_len] at this
    rw [wd_at hl] at hk
    cases hk
    exact ⟨hl, rfl⟩
  refine ⟨fun i j p q hi hj hpq => ?_, fun k q hk => ?_⟩
  · obtain ⟨h1, h2⟩ := at' i p hi
    obtain ⟨h3, h4⟩ := at' j q hj
    exact h.2.2.2 i j h1 h3 (by rw [← h2, ← h4, hpq])
  · obtain ⟨h1, h2⟩ := at' k q hk
    exact ⟨k, h1, h2⟩
def rmD (D : Nat) : Room := { frames := D, cells := 0, slots := 0, locals := 39 * D }
def BG (Γ : Gam) : Mem → State → Prop := fun g t => va_P (dd Γ) vwCl (wd Γ g) t.heap
def QcG (Γ : Gam) (ret : Option FieldType) (P : Int32 → Mem → Prop) : Array Value → State → Outcome → State → Prop := match ret with
  | none => va_Qv (fun g' => P 0 g') (BG Γ) (fr Γ)
  | some _ => va_Qi P (BG Γ) (fr Γ)
def lget (ls : List (Option AV)) (i : Nat) : Option AV := match ls[i]? with
  | some o => o
  | none => none
def LsOk (Γ : Gam) (lsA : Array Slot) (nL : Nat) (ls : List (Option AV)) : Prop := lsA.size = nL ∧ lv_wf lsA ∧ ∀ i v, lget ls i = some v → lsA[i]? = some (.val (avV Γ.2.2.2.1 v))
def Ok (Γ : Gam) (I : Mi) (p : Program) (s : State) (m : MethodId) (args : Array Value) (meth : Method) (c : Code) : Prop := p.tables.exec = Jvm.exec ∧ c.code = I.1 ∧ meth.sig.returnType = I.2.2.2 ∧ c.maxLocals = I.2.2.1 ∧ s.vm.findClass I.2.1 = some m.cls ∧ (∀ w ∈ GW, w.before args s = true) ∧ meth.locks = false ∧ Tb Γ s s.heap
def AW (Γ : Gam) (D : Nat) (I : Mi) (P : Int32 → Mem → Prop) (pc : Nat) (ls : List (Option AV)) (st : List AV) (g : Mem) : Prop :=
  ∀ (p : Program) (e : Env) (s : State) (m : MethodId) (args : Array Value) (below : List Frame) (meth : Method) (c : Code), Ok Γ I p s m args meth c → ∀ (H : Heap) (locs : List Loc) (lsA : Array Slot), va_P (dd Γ) vwCl (wd Γ g) H → va_S (fr Γ) s.heap H locs → LsOk Γ lsA I.2.2.1 ls →
    W p Γ.1 e (rmD D) s m args below meth c H locs 0 0 (MQ below (QcG Γ I.2.2.2 P) args s 0 0 (fr Γ)) (F0 m pc lsA (st.map (avV Γ.2.2.2.1)))
def PcG (Γ : Gam) (as : List AV) (g : Mem) : Array Value → State → Prop := va_Pc (as.map (avV Γ.2.2.2.1)) (fun U => va_P (dd Γ) vwCl (wd Γ g) U.heap ∧ Tb Γ U U.heap)
def wsG (y : MethodName) (I : Mi) : List Cond := .code y I.1 I.2.2.1 I.2.2.2 :: GW
def Runs (Γ : Gam) (D : Nat) (y : MethodName) (I : Mi) (as : List AV) (g : Mem) (P : Int32 → Mem → Prop) : Prop := Met Γ.1 y (wsG y I) (rmD D) (PcG Γ as g) (QcG Γ I.2.2.2 P) 0 0 (fr Γ)
theorem PcG.blind {Γ : Gam} {as : List AV} {g : Mem} : FrameBlind (PcG Γ as g) := by
  intro a U g' mk h
  obtain ⟨h1, h2, h3⟩ := h
  exact ⟨h1, h2, Tb.same (u := U) rfl h3⟩
theorem avV_cat (ad : Nat → Nat) (v : AV) : (avV ad v).category = 1 := by cases v <;> rfl
theorem cat_sum (ad : Nat → Nat) : ∀ st : List AV, ((st.map (avV ad)).map fun v => v.category).sum = st.length
  | [] => rfl
  | v :: st => by
    have := cat_sum ad st
    simp only [List.map_cons, List.sum_cons, List.length_cons, avV_cat]
    omega
theorem lg_cat1 (ad : Nat → Nat) : ∀ vs : List AV, lg_sl (vs.map (avV ad)) = vs.map (fun v => Slot.val (avV ad v))
  | [] => rfl
  | v :: vs => by
    have h := lg_cat1 ad vs
    unfold lg_sl at h ⊢
    rw [List.map_cons, List.flatMap_cons, h, List.map_cons, if_neg (by rw [avV_cat]; decide)]
    rfl
theorem lvargs1 (ad : Nat → Nat) : ∀ (vs : List AV) (n i : Nat) (v : AV), lget (vs.map some) i = some v → (n + i, avV ad v) ∈ lv_args n (vs.map (avV ad))
  | [], n, i, v, h => by simp [lget] at h
  | w :: vs, n, i, v, h => by
    rw [List.map_cons, lv_args]
    cases i with
    | zero =>
      simp [lget] at h
      subst h
      exact List.mem_cons_self
    | succ i =>
      have h2 : lget (vs.map some) i = some v := by simpa [lget] using h
      have := lvargs1 ad vs (n + 1) i v h2
      rw [if_neg (by rw [avV_cat]; decide)]
      rw [show n + (i + 1) = n + 1 + i by omega]
      exact List.mem_cons_of_mem _ this
theorem Runs.intro {Γ : Gam} {D : Nat} {y : MethodName} {I : Mi} {as : List AV} {g : Mem} {P : Int32 → Mem → Prop} (hy : plainName y.cls = true) (ho : I.2.1 = y.cls) (hn : as.length ≤ I.2.2.1) (K : AW Γ D I P 0 (as.map some) [] g) : Runs Γ D y I as g P := by
  refine Met.ofW (cc := I.1) (maxL := I.2.2.1) (ret := I.2.2.2) hy rfl ?_
  intro p e s m args below meth c s₁ B hml hv
  obtain ⟨rfl, hP, hT⟩ := hv
  have hts := atoms_spec (ws := wsG y I) B.pre
  have hown : s.vm.findClass y.cls = some m.cls := findClass_of_methodNamed B.named
  have hlen : (lg_sl (as.map (avV Γ.2.2.2.1))).length ≤ I.2.2.1 := by rw [lg_cat1]; simpa using hn
  have hl := lv_entry (as.map (avV Γ.2.2.2.1)) (n := I.2.2.1) hlen
  rw [lg_entry_eq]
  refine K p e s m _ below meth c ⟨B.exec, B.bytes, B.returns, hml, by rw [ho]; exact hown, fun w hw => hts w (List.mem_cons_of_mem _ hw), B.notSynchronized, hT⟩ s.heap [] _ hP va_S.rf ⟨hl.1, hl.2.1, fun i v h => ?_⟩
  have := lvargs1 Γ.2.2.2.1 as 0 i v h
  have h2 := hl.2.2 _ this
  rw [Nat.zero_add] at h2
  exact h2
theorem QcG.mono {Γ : Gam} {ret : Option FieldType} {P P' : Int32 → Mem → Prop} (h : ∀ r g', P r g' → P' r g') {a : Array Value} {st t : State} {o : Outcome} (q : QcG Γ ret P a st o t) : QcG Γ ret P' a st o t := by
  cases ret with
  | none =>
    obtain ⟨⟨u, h1, h2, h3⟩, h4⟩ := q
    exact ⟨⟨u, h1, h _ _ h2, h3⟩, h4⟩
  | some ty =>
    obtain ⟨⟨r, u, h1, h2, h3⟩, h4⟩ := q
    exact ⟨⟨r, u, h1, h _ _ h2, h3⟩, h4⟩
end
section
/-! The layer's rows: an instruction, a row. -/
theorem Runs.mono {Γ : Gam} {D : Nat} {y : MethodName} {I : Mi} {as : List AV} {g : Mem} {P P' : Int32 → Mem → Prop} (h : Runs Γ D y I as g P) (hp : ∀ r g', P r g' → P' r g') : Runs Γ D y I as g P' := by
  intro p e ha hc hk s m args below hf happ hP hK
  obtain ⟨n, o, h1, h2, h3, hq, hL⟩ := h p e ha hc hk s m args below hf happ hP hK
  exact ⟨n, o, h1, h2, h3, hq.mono hp, hL⟩
theorem Runs.fn {Γ : Gam} {D : Nat} {y : MethodName} {I : Mi} {as : List AV} {g g1 : Mem} {r1 : Int32} {P : Int32 → Mem → Prop} (h : Runs Γ D y I as g (fun r g' => r = r1 ∧ g' = g1)) (hp : P r1 g1) : Runs Γ D y I as g P := h.mono (fun r g' q => by rw [q.1, q.2]; exact hp)
def aAt (k : Nat) : Option (Nat × Nat) := match shp k with
  | .inr (.inl q) => some q
  | _ => none
def fAt (k j : Nat) : Option (Nat × Option Nat) := match shp k with
  | .inl q => (q.2[j]?).map (fun t => (q.1, t))
  | _ => none
def rAt (k : Nat) : Option (List Nat) := match shp k with
  | .inr (.inr L) => some L
  | _ => none
def cAt (k : Nat) : Option Nat := match shp k with
  | .inl q => some q.1
  | _ => none
theorem shp_big {k : Nat} (h : 104 ≤ k) : shp k = .inr (.inr []) := by
  unfold shp
  rw [List.getD_eq_getElem?_getD, List.getElem?_eq_none]
  · rfl
  · exact Nat.le_trans (by decide) h
theorem aAt_lt {k : Nat} {q : Nat × Nat} (h : aAt k = some q) : k < 104 := by
  rcases Nat.lt_or_ge k 104 with h1 | h1
  · exact h1
  · rw [aAt, shp_big h1] at h; cases h
theorem fAt_lt {k j : Nat} {q : Nat × Option Nat} (h : fAt k j = some q) : k < 104 := by
  rcases Nat.lt_or_ge k 104 with h1 | h1
  · exact h1
  · rw [fAt, shp_big h1] at h; cases h
theorem cAt_lt {k : Nat} {q : Nat} (h : cAt k = some q) : k < 104 := by
  rcases Nat.lt_or_ge k 104 with h1 | h1
  · exact h1
  · rw [cAt, shp_big h1] at h; cases h
theorem aAt_cell {Γ : Gam} {g : Mem} {k : Nat} {q : Nat × Nat} (h : aAt k = some q) : cellE Γ k g = .inl (Γ.2.2.2.2.1 q.1, q.2, .inl (g k)) := by
  unfold aAt at h
  unfold cellE
  split at h
  · rename_i q' hq
    rw [hq]
    cases h
    rfl
  · cases h
theorem fAt_cell {Γ : Gam} {g : Mem} {k j : Nat} {q : Nat × Option Nat} (h : fAt k j = some q) : ∃ fl, fl[j]? = some q.2 ∧ ∀ g : Mem, cellE Γ k g = .inr (q.1, fldV Γ.2.2.2.1 (g k) fl) := by
  unfold fAt at h
  split at h
  · rename_i q' hq
    cases hj : q'.2[j]? with
    | none => rw [hj] at h; cases h
    | some t =>
      rw [hj] at h
      cases h
      exact ⟨q'.2, hj, fun g => by unfold cellE; rw [hq]⟩
  · cases h
theorem cAt_cell {Γ : Gam} {g : Mem} {k ci : Nat} (h : cAt k = some ci) : ∃ fs, cellE Γ k g = .inr (ci, fs) := by
  unfold cAt at h
  split at h
  · rename_i q' hq
    cases h
    exact ⟨fldV Γ.2.2.2.1 (g k) q'.2, by unfold cellE; rw [hq]⟩
  · cases h
theorem rAt_lt {k : Nat} {x : Nat} {L : List Nat} (h : rAt k = some (x :: L)) : k < 104 := by
  rcases Nat.lt_or_ge k 104 with h1 | h1
  · exact h1
  · rw [rAt, shp_big h1] at h; cases h
theorem rAt_cell {Γ : Gam} {g : Mem} {k : Nat} {L : List Nat} (h : rAt k = some L) : cellE Γ k g = .inl (Γ.2.2.2.2.1 2, L.length, .inr (.inr (.inr (.inr (fun j => (L[j]?).map Γ.2.2.2.1))))) := by
  unfold rAt at h
  unfold cellE
  split at h
  · rename_i q' hq
    rw [hq]
    cases h
    rfl
  · cases h
def lset : List (Option AV) → Nat → AV → List (Option AV)
  | [], 0, v => [some v]
  | [], i + 1, v => none :: lset [] i v
  | _ :: ls, 0, v => some v :: ls
  | o :: ls, i + 1, v => o :: lset ls i v
theorem lget_nil (i : Nat) : lget [] i = none := by simp [lget]
theorem lget_0 (o : Option AV) (ls : List (Option AV)) : lget (o :: ls) 0 = o := by simp [lget]
theorem lget_s (o : Option AV) (ls : List (Option AV)) (i : Nat) : lget (o :: ls) (i + 1) = lget ls i := by simp [lget]
theorem lget_lset (v : AV) : ∀ (ls : List (Option AV)) (i j : Nat), lget (lset ls i v) j = if j = i then some v else lget ls j
  | [], 0, 0 => by simp [lset, lget]
  | [], 0, j + 1 => by simp [lset, lget_s, lget_nil]
  | [], i + 1, 0 => by simp [lset, lget_0, lget_nil]
  | [], i + 1, j + 1 => by simp [lset, lget_s, lget_nil, lget_lset v [] i j]
  | o :: ls, 0, 0 => by simp [lset, lget]
  | o :: ls, 0, j + 1 => by simp [lset, lget_s]
  | o :: ls, i + 1, 0 => by simp [lset, lget_0]
  | o :: ls, i + 1, j + 1 => by simp [lset, lget_s, lget_lset v ls i j]
def lmask : List Bool → List (Option AV) → List (Option AV)
  | true :: bs, o :: ls => o :: lmask bs ls
  | false :: bs, _ :: ls => none :: lmask bs ls
  | _, _ => []
theorem lget_lmask : ∀ (bs : List Bool) (ls : List (Option AV)) (i : Nat) (v : AV), lget (lmask bs ls) i = some v → lget ls i = some v
  | [], ls, i, v, h => by cases ls <;> simp [lmask, lget_nil] at h
  | b :: bs, [], i, v, h => by cases b <;> simp [lmask, lget_nil] at h
  | true :: bs, o :: ls, 0, v, h => by simpa [lmask, lget_0] using h
  | false :: bs, o :: ls, 0, v, h => by simp [lmask, lget_0] at h
  | true :: bs, o :: ls, i + 1, v, h => by
    rw [lget_s]; exact lget_lmask bs ls i v (by simpa [lmask, lget_s] using h)
  | false :: bs, o :: ls, i + 1, v, h => by
    rw [lget_s]; exact lget_lmask bs ls i v (by simpa [lmask, lget_s] using h)
def asc (ad : Nat → Nat) (ls : List (Option AV)) : List (Nat × Value) := (List.range ls.length).filterMap (fun j => (lget ls j).map (fun v => (j, avV ad v)))
theorem asc_mem {ad : Nat → Nat} {ls : List (Option AV)} {j : Nat} {v : AV} (h : lget ls j = some v) : (j, avV ad v) ∈ asc ad ls := by
  have hj : j < ls.length := by
    rcases Nat.lt_or_ge j ls.length with h1 | h1
    · exact h1
    · simp [lget, List.getElem?_eq_none h1] at h
  exact List.mem_filterMap.mpr ⟨j, List.mem_range.mpr hj, by rw [h]; rfl⟩
theorem LsOk.has {Γ : Gam} {lsA : Array Slot} {nL : Nat} {ls : List (Option AV)} (h : LsOk Γ lsA nL ls) : lv_has lsA nL (asc Γ.2.2.2.1 ls) := by
  refine ⟨h.1, h.2.1, fun q hq => ?_⟩
  obtain ⟨j, -, hj⟩ := List.mem_filterMap.mp hq
  cases hg : lget ls j with
  | none => rw [hg] at hj; cases hj
  | some v =>
    rw [hg] at hj
    cases hj
    exact h.2.2 j v hg
theorem LsOk.st {Γ : Gam} {lsA : Array Slot} {nL i : Nat} {ls ls' : List (Option AV)} {v : AV} {lv : List (Nat × Value)} (hlv : ∀ q ∈ asc Γ.2.2.2.1 ls, q ∈ lv) (h : lv_has lsA nL ((i, avV Γ.2.2.2.1 v) :: lv.filter (fun q => !(q.1 == i) && !(q.1 + 1 == i && q.2.category == 2)))) (hs : lset ls i v = ls') : LsOk Γ lsA nL ls' := by
  subst hs
  refine ⟨h.1, h.2.1, fun j w hw => ?_⟩
  rw [lget_lset] at hw
  by_cases hj : j = i
  · subst hj
    rw [if_pos rfl] at hw
    cases hw
    exact h.2.2 _ List.mem_cons_self
  · rw [if_neg hj] at hw
    refine h.2.2 (j, avV Γ.2.2.2.1 w) (List.mem_cons_of_mem _ (List.mem_filter.mpr ⟨hlv _ (asc_mem hw), ?_⟩))
    simp [hj, avV_cat]
section AWR
variable {Γ : Gam} {D : Nat} {I : Mi} {P : Int32 → Mem → Prop} {pc : Nat} {ls ls' : List (Option AV)} {st : List AV} {g : Mem}
theorem aw_mask (bs : List Bool) (h : lmask bs ls = ls') (K : AW Γ D I P pc ls' st g) : AW Γ D I P pc ls st g := by
  intro p e s m args below meth c hO H locs lsA hP hS hL
  subst h
  exact K p e s m args below meth c hO H locs lsA hP hS ⟨hL.1, hL.2.1, fun i v hv => hL.2.2 i v (lget_lmask bs ls i v hv)⟩
theorem aw_iconst {n : Int} (v : Int32) (hd : decode I.1 pc = .ok (.iconst n, 1)) (hv : Int32.ofInt n = v) (K : AW Γ D I P (pc + 1) ls (.inl v :: st) g) : AW Γ D I P pc ls st g := by
  intro p e s m args below meth c hO H locs lsA hP hS hL
  exact lv_iconst hO.1 hO.2.1 hd hv (K p e s m args below meth c hO H locs lsA hP hS hL)
theorem aw_bipush {n : Int} (v : Int32) (hd : decode I.1 pc = .ok (.bipush n, 2)) (hv : (Int8.ofInt n).toInt32 = v) (K : AW Γ D I P (pc + 2) ls (.inl v :: st) g) : AW Γ D I P pc ls st g := by
  intro p e s m args below meth c hO H locs lsA hP hS hL
  exact lv_bipush hO.1 hO.2.1 hd hv (K p e s m args below meth c hO H locs lsA hP hS hL)
theorem aw_sipush {n : Int} (v : Int32) (hd : decode I.1 pc = .ok (.sipush n, 3)) (hv : (Int16.ofInt n).toInt32 = v) (K : AW Γ D I P (pc + 3) ls (.inl v :: st) g) : AW Γ D I P pc ls st g := by
  intro p e s m args below meth c hO H locs lsA hP hS hL
  exact lv_sipush hO.1 hO.2.1 hd hv (K p e s m args below meth c hO H locs lsA hP hS hL)
theorem aw_iload_n {k : Fin 4} {x : Int32} (hd : decode I.1 pc = .ok (.iload_n k, 1)) (hl : lget ls k = some (.inl x)) (K : AW Γ D I P (pc + 1) ls (.inl x :: st) g) : AW Γ D I P pc ls st g := by
  intro p e s m args below meth c hO H locs lsA hP hS hL
  exact lv_iload_n hO.1 hO.2.1 hd rfl (hL.2.2 _ _ hl) (K p e s m args below meth c hO H locs lsA hP hS hL)
theorem aw_iload {k : Nat} {x : Int32} (hd : decode I.1 pc = .ok (.iload k, 2)) (hl : lget ls k = some (.inl x)) (K : AW Γ D I P (pc + 2) ls (.inl x :: st) g) : AW Γ D I P pc ls st g := by
  intro p e s m args below meth c hO H locs lsA hP hS hL
  exact lv_iload hO.1 hO.2.1 hd (hL.2.2 _ _ hl) (K p e s m args below meth c hO H locs lsA hP hS hL)
theorem aw_aload_n {k : Fin 4} {x : Nat} (hd : decode I.1 pc = .ok (.aload_n k, 1)) (hl : lget ls k = some (.inr x)) (K : AW Γ D I P (pc + 1) ls (.inr x :: st) g) : AW Γ D I P pc ls st g := by
  intro p e s m args below meth c hO H locs lsA hP hS hL
  exact lv_aload_n hO.1 hO.2.1 hd rfl (hL.2.2 _ _ hl) (K p e s m args below meth c hO H locs lsA hP hS hL)
theorem aw_istore_n {k : Fin 4} {x : Int32} (ls' : List (Option AV)) (hd : decode I.1 pc = .ok (.istore_n k, 1)) (hn : (k : Nat) < I.2.2.1) (hs : lset ls (k : Nat) (.inl x) = ls') (K : AW Γ D I P (pc + 1) ls' st g) : AW Γ D I P pc ls (.inl x :: st) g := by
  intro p e s m args below meth c hO H locs lsA hP hS hL
  exact lv_istore_n hO.1 hO.2.1 hd rfl hL.has hn rfl (fun lsB hB => K p e s m args below meth c hO H locs lsB hP hS (LsOk.st (v := .inl x) (fun q h => h) hB hs))
theorem aw_istore {k : Nat} {x : Int32} (ls' : List (Option AV)) (hd : decode I.1 pc = .ok (.istore k, 2)) (hn : k < I.2.2.1) (hs : lset ls k (.inl x) = ls') (K : AW Γ D I P (pc + 2) ls' st g) : AW Γ D I P pc ls (.inl x :: st) g := by
  intro p e s m args below meth c hO H locs lsA hP hS hL
  exact lv_istore hO.1 hO.2.1 hd hL.has hn rfl (fun lsB hB => K p e s m args below meth c hO H locs lsB hP hS (LsOk.st (v := .inl x) (fun q h => h) hB hs))
theorem aw_astore_n {k : Fin 4} {x : Nat} (ls' : List (Option AV)) (hd : decode I.1 pc = .ok (.astore_n k, 1)) (hn : (k : Nat) < I.2.2.1) (hs : lset ls (k : Nat) (.inr x) = ls') (K : AW Γ D I P (pc + 1) ls' st g) : AW Γ D I P pc ls (.inr x :: st) g := by
  intro p e s m args below meth c hO H locs lsA hP hS hL
  exact lv_astore_n hO.1 hO.2.1 hd rfl hL.has hn rfl (fun lsB hB => K p e s m args below meth c hO H locs lsB hP hS (LsOk.st (v := .inr x) (fun q h => h) hB hs))
theorem aw_iinc {k : Nat} {n : Int} {x : Int32} (v : Int32) (ls' : List (Option AV)) (hd : decode I.1 pc = .ok (.iinc k n, 3)) (hl : lget ls k = some (.inl x)) (hv : x + Int32.ofInt n = v) (hn : k < I.2.2.1) (hs : lset ls k (.inl v) = ls') (K : AW Γ D I P (pc + 3) ls' st g) : AW Γ D I P pc ls st g := by
  intro p e s m args below meth c hO H locs lsA hP hS hL
  have h0 : lv_has lsA I.2.2.1 ((k, .int x) :: asc Γ.2.2.2.1 ls) := ⟨hL.1, hL.2.1, fun q hq => (List.mem_cons.mp hq).elim (fun e => by rw [e]; exact hL.2.2 k (.inl x) hl) (fun hq => hL.has.2.2 q hq)⟩
  exact lv_iinc (k := 0) (x := x) (v := v) hO.1 hO.2.1 hd h0 rfl hv hn rfl (fun lsB hB => K p e s m args below meth c hO H locs lsB hP hS (LsOk.st (v := .inl v) (fun q h => List.mem_cons_of_mem _ h) hB hs))
theorem aw_iadd {x y : Int32} (hd : decode I.1 pc = .ok (.iadd, 1)) (K : AW Γ D I P (pc + 1) ls (.inl (x + y) :: st) g) : AW Γ D I P pc ls (.inl y :: .inl x :: st) g := by
  intro p e s m args below meth c hO H locs lsA hP hS hL
  exact lv_iadd hO.1 hO.2.1 hd (K p e s m args below meth c hO H locs lsA hP hS hL)
theorem aw_isub {x y : Int32} (hd : decode I.1 pc = .ok (.isub, 1)) (K : AW Γ D I P (pc + 1) ls (.inl (x - y) :: st) g) : AW Γ D I P pc ls (.inl y :: .inl x :: st) g := by
  intro p e s m args below meth c hO H locs lsA hP hS hL
  exact lv_isub hO.1 hO.2.1 hd (K p e s m args below meth c hO H locs lsA hP hS hL)
theorem aw_imul {x y : Int32} (hd : decode I.1 pc = .ok (.imul, 1)) (K : AW Γ D I P (pc + 1) ls (.inl (x * y) :: st) g) : AW Γ D I P pc ls (.inl y :: .inl x :: st) g := by
  intro p e s m args below meth c hO H locs lsA hP hS hL
  exact lv_imul hO.1 hO.2.1 hd (K p e s m args below meth c hO H locs lsA hP hS hL)
theorem aw_iand {x y : Int32} (hd : decode I.1 pc = .ok (.iand, 1)) (K : AW Γ D I P (pc + 1) ls (.inl (x &&& y) :: st) g) : AW Γ D I P pc ls (.inl y :: .inl x :: st) g := by
  intro p e s m args below meth c hO H locs lsA hP hS hL
  exact lv_iand hO.1 hO.2.1 hd (K p e s m args below meth c hO H locs lsA hP hS hL)
theorem aw_ior {x y : Int32} (hd : decode I.1 pc = .ok (.ior, 1)) (K : AW Γ D I P (pc + 1) ls (.inl (x ||| y) :: st) g) : AW Γ D I P pc ls (.inl y :: .inl x :: st) g := by
  intro p e s m args below meth c hO H locs lsA hP hS hL
  exact lv_ior hO.1 hO.2.1 hd (K p e s m args below meth c hO H locs lsA hP hS hL)
theorem aw_ixor {x y : Int32} (hd : decode I.1 pc = .ok (.ixor, 1)) (K : AW Γ D I P (pc + 1) ls (.inl (x ^^^ y) :: st) g) : AW Γ D I P pc ls (.inl y :: .inl x :: st) g := by
  intro p e s m args below meth c hO H locs lsA hP hS hL
  exact lv_ixor hO.1 hO.2.1 hd (K p e s m args below meth c hO H locs lsA hP hS hL)
theorem aw_ishl {x y : Int32} (hd : decode I.1 pc = .ok (.ishl, 1)) (K : AW Γ D I P (pc + 1) ls (.inl (x <<< (y &&& 31)) :: st) g) : AW Γ D I P pc ls (.inl y :: .inl x :: st) g := by
  intro p e s m args below meth c hO H locs lsA hP hS hL
  exact lv_ishl hO.1 hO.2.1 hd (K p e s m args below meth c hO H locs lsA hP hS hL)
theorem aw_ishr {x y : Int32} (hd : decode I.1 pc = .ok (.ishr, 1)) (K : AW Γ D I P (pc + 1) ls (.inl (x >>> (y &&& 31)) :: st) g) : AW Γ D I P pc ls (.inl y :: .inl x :: st) g := by
  intro p e s m args below meth c hO H locs lsA hP hS hL
  exact lv_ishr hO.1 hO.2.1 hd (K p e s m args below meth c hO H locs lsA hP hS hL)
theorem aw_idiv {x y : Int32} (hd : decode I.1 pc = .ok (.idiv, 1)) (hy : ¬ y = 0) (K : AW Γ D I P (pc + 1) ls (.inl (x / y) :: st) g) : AW Γ D I P pc ls (.inl y :: .inl x :: st) g := by
  intro p e s m args below meth c hO H locs lsA hP hS hL
  exact lv_idiv hO.1 hO.2.1 hd hy (K p e s m args below meth c hO H locs lsA hP hS hL)
theorem aw_irem {x y : Int32} (hd : decode I.1 pc = .ok (.irem, 1)) (hy : ¬ y = 0) (K : AW Γ D I P (pc + 1) ls (.inl (x - x / y * y) :: st) g) : AW Γ D I P pc ls (.inl y :: .inl x :: st) g := by
  intro p e s m args below meth c hO H locs lsA hP hS hL
  exact lv_irem hO.1 hO.2.1 hd hy (K p e s m args below meth c hO H locs lsA hP hS hL)
theorem aw_iushr {x y : Int32} (hd : decode I.1 pc = .ok (.iushr, 1)) (K : AW Γ D I P (pc + 1) ls (.inl ((x.toUInt32 >>> (y.toUInt32 &&& Int32.toUInt32 31)).toInt32) :: st) g) : AW Γ D I P pc ls (.inl y :: .inl x :: st) g := by
  intro p e s m args below meth c hO H locs lsA hP hS hL
  exact lv_iushr hO.1 hO.2.1 hd rfl (K p e s m args below meth c hO H locs lsA hP hS hL)
theorem aw_dup {v : AV} (hd : decode I.1 pc = .ok (.dup, 1)) (K : AW Γ D I P (pc + 1) ls (v :: v :: st) g) : AW Γ D I P pc ls (v :: st) g := by
  intro p e s m args below meth c hO H locs lsA hP hS hL
  exact lv_dup hO.1 hO.2.1 hd (avV_cat _ v) (K p e s m args below meth c hO H locs lsA hP hS hL)
theorem aw_dup2 {v w : AV} (hd : decode I.1 pc = .ok (.dup2, 1)) (K : AW Γ D I P (pc + 1) ls (v :: w :: v :: w :: st) g) : AW Γ D I P pc ls (v :: w :: st) g := by
  intro p e s m args below meth c hO H locs lsA hP hS hL
  exact lv_dup2_11 hO.1 hO.2.1 hd (avV_cat _ v) (avV_cat _ w) (K p e s m args below meth c hO H locs lsA hP hS hL)
theorem aw_pop {v : AV} (hd : decode I.1 pc = .ok (.pop, 1)) (K : AW Γ D I P (pc + 1) ls st g) : AW Γ D I P pc ls (v :: st) g := by
  intro p e s m args below meth c hO H locs lsA hP hS hL
  exact lv_pop hO.1 hO.2.1 hd (avV_cat _ v) (K p e s m args below meth c hO H locs lsA hP hS hL)
theorem aw_if_eq {x : Int32} {off : Int} (tgt : Nat) (hd : decode I.1 pc = .ok (.ifCond .eq off, 3)) (ht : (pc : Int) + off = (tgt : Int)) (kt : x = 0 → AW Γ D I P tgt ls st g) (kf : ¬ (x = 0) → AW Γ D I P (pc + 3) ls st g) : AW Γ D I P pc ls (.inl x :: st) g := by
  intro p e s m args below meth c hO H locs lsA hP hS hL
  exact lv_if_eq hO.1 hO.2.1 hd ht (fun h => kt h p e s m args below meth c hO H locs lsA hP hS hL) (fun h => kf h p e s m args below meth c hO H locs lsA hP hS hL)
theorem aw_icmp_eq {x y : Int32} {off : Int} (tgt : Nat) (hd : decode I.1 pc = .ok (.if_icmp .eq off, 3)) (ht : (pc : Int) + off = (tgt : Int)) (kt : x = y → AW Γ D I P tgt ls st g) (kf : ¬ (x = y) → AW Γ D I P (pc + 3) ls st g) : AW Γ D I P pc ls (.inl y :: .inl x :: st) g := by
  intro p e s m args below meth c hO H locs lsA hP hS hL
  exact lv_icmp_eq hO.1 hO.2.1 hd ht (fun h => kt h p e s m args below meth c hO H locs lsA hP hS hL) (fun h => kf h p e s m args below meth c hO H locs lsA hP hS hL)
theorem aw_if_ne {x : Int32} {off : Int} (tgt : Nat) (hd : decode I.1 pc = .ok (.ifCond .ne off, 3)) (ht : (pc : Int) + off = (tgt : Int)) (kt : ¬ x = 0 → AW Γ D I P tgt ls st g) (kf : x = 0 → AW Γ D I P (pc + 3) ls st g) : AW Γ D I P pc ls (.inl x :: st) g := by
  intro p e s m args below meth c hO H locs lsA hP hS hL
  exact lv_if_ne hO.1 hO.2.1 hd ht (fun h => kt h p e s m args below meth c hO H locs lsA hP hS hL) (fun h => kf h p e s m args below meth c hO H locs lsA hP hS hL)
theorem aw_icmp_ne {x y : Int32} {off : Int} (tgt : Nat) (hd : decode I.1 pc = .ok (.if_icmp .ne off, 3)) (ht : (pc : Int) + off = (tgt : Int)) (kt : ¬ x = y → AW Γ D I P tgt ls st g) (kf : x = y → AW Γ D I P (pc + 3) ls st g) : AW Γ D I P pc ls (.inl y :: .inl x :: st) g := by
  intro p e s m args below meth c hO H locs lsA hP hS hL
  exact lv_icmp_ne hO.1 hO.2.1 hd ht (fun h => kt h p e s m args below meth c hO H locs lsA hP hS hL) (fun h => kf h p e s m args below meth c hO H locs lsA hP hS hL)
theorem aw_if_lt {x : Int32} {off : Int} (tgt : Nat) (hd : decode I.1 pc = .ok (.ifCond .lt off, 3)) (ht : (pc : Int) + off = (tgt : Int)) (kt : x < 0 → AW Γ D I P tgt ls st g) (kf : ¬ (x < 0) → AW Γ D I P (pc + 3) ls st g) : AW Γ D I P pc ls (.inl x :: st) g := by
  intro p e s m args below meth c hO H locs lsA hP hS hL
  exact lv_if_lt hO.1 hO.2.1 hd ht (fun h => kt h p e s m args below meth c hO H locs lsA hP hS hL) (fun h => kf h p e s m args below meth c hO H locs lsA hP hS hL)
theorem aw_icmp_lt {x y : Int32} {off : Int} (tgt : Nat) (hd : decode I.1 pc = .ok (.if_icmp .lt off, 3)) (ht : (pc : Int) + off = (tgt : Int)) (kt : x < y → AW Γ D I P tgt ls st g) (kf : ¬ (x < y) → AW Γ D I P (pc + 3) ls st g) : AW Γ D I P pc ls (.inl y :: .inl x :: st) g := by
  intro p e s m args below meth c hO H locs lsA hP hS hL
  exact lv_icmp_lt hO.1 hO.2.1 hd ht (fun h => kt h p e s m args below meth c hO H locs lsA hP hS hL) (fun h => kf h p e s m args below meth c hO H locs lsA hP hS hL)
theorem aw_if_ge {x : Int32} {off : Int} (tgt : Nat) (hd : decode I.1 pc = .ok (.ifCond .ge off, 3)) (ht : (pc : Int) + off = (tgt : Int)) (kt : 0 ≤ x → AW Γ D I P tgt ls st g) (kf : ¬ (0 ≤ x) → AW Γ D I P (pc + 3) ls st g) : AW Γ D I P pc ls (.inl x :: st) g := by
  intro p e s m args below meth c hO H locs lsA hP hS hL
  exact lv_if_ge hO.1 hO.2.1 hd ht (fun h => kt h p e s m args below meth c hO H locs lsA hP hS hL) (fun h => kf h p e s m args below meth c hO H locs lsA hP hS hL)
theorem aw_icmp_ge {x y : Int32} {off : Int} (tgt : Nat) (hd : decode I.1 pc = .ok (.if_icmp .ge off, 3)) (ht : (pc : Int) + off = (tgt : Int)) (kt : y ≤ x → AW Γ D I P tgt ls st g) (kf : ¬ (y ≤ x) → AW Γ D I P (pc + 3) ls st g) : AW Γ D I P pc ls (.inl y :: .inl x :: st) g := by
  intro p e s m args below meth c hO H locs lsA hP hS hL
  exact lv_icmp_ge hO.1 hO.2.1 hd ht (fun h => kt h p e s m args below meth c hO H locs lsA hP hS hL) (fun h => kf h p e s m args below meth c hO H locs lsA hP hS hL)
theorem aw_if_gt {x : Int32} {off : Int} (tgt : Nat) (hd : decode I.1 pc = .ok (.ifCond .gt off, 3)) (ht : (pc : Int) + off = (tgt : Int)) (kt : 0 < x → AW Γ D I P tgt ls st g) (kf : ¬ (0 < x) → AW Γ D I P (pc + 3) ls st g) : AW Γ D I P pc ls (.inl x :: st) g := by
  intro p e s m args below meth c hO H locs lsA hP hS hL
  exact lv_if_gt hO.1 hO.2.1 hd ht (fun h => kt h p e s m args below meth c hO H locs lsA hP hS hL) (fun h => kf h p e s m args below meth c hO H locs lsA hP hS hL)
theorem aw_icmp_gt {x y : Int32} {off : Int} (tgt : Nat) (hd : decode I.1 pc = .ok (.if_icmp .gt off, 3)) (ht : (pc : Int) + off = (tgt : Int)) (kt : y < x → AW Γ D I P tgt ls st g) (kf : ¬ (y < x) → AW Γ D I P (pc + 3) ls st g) : AW Γ D I P pc ls (.inl y :: .inl x :: st) g := by
  intro p e s m args below meth c hO H locs lsA hP hS hL
  exact lv_icmp_gt hO.1 hO.2.1 hd ht (fun h => kt h p e s m args below meth c hO H locs lsA hP hS hL) (fun h => kf h p e s m args below meth c hO H locs lsA hP hS hL)
theorem aw_if_le {x : Int32} {off : Int} (tgt : Nat) (hd : decode I.1 pc = .ok (.ifCond .le off, 3)) (ht : (pc : Int) + off = (tgt : Int)) (kt : x ≤ 0 → AW Γ D I P tgt ls st g) (kf : ¬ (x ≤ 0) → AW Γ D I P (pc + 3) ls st g) : AW Γ D I P pc ls (.inl x :: st) g := by
  intro p e s m args below meth c hO H locs lsA hP hS hL
  exact lv_if_le hO.1 hO.2.1 hd ht (fun h => kt h p e s m args below meth c hO H locs lsA hP hS hL) (fun h => kf h p e s m args below meth c hO H locs lsA hP hS hL)
theorem aw_icmp_le {x y : Int32} {off : Int} (tgt : Nat) (hd : decode I.1 pc = .ok (.if_icmp .le off, 3)) (ht : (pc : Int) + off = (tgt : Int)) (kt : x ≤ y → AW Γ D I P tgt ls st g) (kf : ¬ (x ≤ y) → AW Γ D I P (pc + 3) ls st g) : AW Γ D I P pc ls (.inl y :: .inl x :: st) g := by
  intro p e s m args below meth c hO H locs lsA hP hS hL
  exact lv_icmp_le hO.1 hO.2.1 hd ht (fun h => kt h p e s m args below meth c hO H locs lsA hP hS hL) (fun h => kf h p e s m args below meth c hO H locs lsA hP hS hL)
theorem aw_goto {off : Int} (tgt : Nat) (hd : decode I.1 pc = .ok (.goto off, 3)) (ht : (pc : Int) + off = (tgt : Int)) (K : AW Γ D I P tgt ls st g) : AW Γ D I P pc ls st g := by
  intro p e s m args below meth c hO H locs lsA hP hS hL
  exact lv_goto hO.1 hO.2.1 hd ht (K p e s m args below meth c hO H locs lsA hP hS hL)
def FOk (own : String) (idx ci j : Nat) : Prop := ∃ (C : String) (T : u_T) (N : Nat), vwCl[ci]? = some (C, T, N) ∧ j < N ∧ (∀ w ∈ u_ws C T N, w ∈ GW) ∧ Cond.fieldLink own idx (T j).1 (T j).2.1 (T j).2.2.1 ∈ GW
def FPok (own : String) (idx ci j : Nat) (ty : FieldType) : Prop := ∃ (C : String) (T : u_T) (N : Nat) (ty0 : Nat → FieldType), vwCl[ci]? = some (C, T, N) ∧ j < N ∧ (∀ w ∈ u_ws C T N, w ∈ GW) ∧ Cond.fieldLink own idx (T j).1 (T j).2.1 (T j).2.2.1 ∈ GW ∧ (∀ k, k < N → parseFieldDescriptor (T k).2.2.1 = some (ty0 k)) ∧ (∀ a, a < N → ∀ b, b < N → a ≠ b → (T a).2.1 ≠ (T b).2.1) ∧ (T j).2.2.2 = false ∧ parseFieldDescriptor (T j).2.2.1 = some ty
theorem aw_getf {k idx ci j : Nat} {t : Option Nat} (hF : FOk I.2.1 idx ci j) (hf : fAt k j = some (ci, t)) (hd : decode I.1 pc = .ok (.getfield idx, 3)) (v : AV) (hv : fv1 Γ.2.2.2.1 (g k) j t = avV Γ.2.2.2.1 v) (K : AW Γ D I P (pc + 3) ls (v :: st) g) : AW Γ D I P pc ls (.inr k :: st) g := by
  intro p e s m args below meth c hO H locs lsA hP hS hL
  obtain ⟨C, T, N, h1, h2, h3, h4⟩ := hF
  obtain ⟨fl, h5, h6⟩ := fAt_cell (Γ := Γ) (g := g) hf
  exact va_get (v := avV Γ.2.2.2.1 v) hO.1 hO.2.1 hO.2.2.2.2.2.1 h3 hO.2.2.2.2.1 hO.2.2.2.2.2.2.2.1 hP k (by rw [wd_at (fAt_lt hf), h6]) h1 j h2 (hO.2.2.2.2.2.1 _ h4) (fun _ h => h) (by rw [fldV_at h5, ← hv]) hd (K p e s m args below meth c hO H locs lsA hP hS hL)
theorem aw_geti {k idx ci j : Nat} (hF : FOk I.2.1 idx ci j) (hf : fAt k j = some (ci, none)) (hd : decode I.1 pc = .ok (.getfield idx, 3)) (K : AW Γ D I P (pc + 3) ls (.inl (g k j) :: st) g) : AW Γ D I P pc ls (.inr k :: st) g := aw_getf hF hf hd (.inl (g k j)) rfl K
theorem aw_getr {k idx ci j : Nat} (q : Nat) (hF : FOk I.2.1 idx ci j) (hf : fAt k j = some (ci, some q)) (hd : decode I.1 pc = .ok (.getfield idx, 3)) (K : AW Γ D I P (pc + 3) ls (.inr q :: st) g) : AW Γ D I P pc ls (.inr k :: st) g := aw_getf hF hf hd (.inr q) rfl K
theorem aw_putf {k idx ci j : Nat} {ty : FieldType} {x : Int32} (hF : FPok I.2.1 idx ci j ty) (hf : fAt k j = some (ci, none)) (hn : narrow ty (.int x) = .int x) (hfit : fits ty (.int x) = true) (hd : decode I.1 pc = .ok (.putfield idx, 3)) (K : AW Γ D I P (pc + 3) ls st (up g k j x)) : AW Γ D I P pc ls (.inl x :: .inr k :: st) g := by
  intro p e s m args below meth c hO H locs lsA hP hS hL
  obtain ⟨C, T, N, ty0, h1, h2, h3, h4, t1, t2, t3, t4⟩ := hF
  obtain ⟨fl, h5, h6⟩ := fAt_cell (Γ := Γ) (g := g) hf
  have hlt := fAt_lt hf
  have hfl : j < (fldV Γ.2.2.2.1 (g k) fl).length := by
    have := (List.getElem?_eq_some_iff.mp h5).1
    simpa [fldV] using this
  refine va_put (v := .int x) hO.1 hO.2.1 hO.2.2.2.2.2.1 h3 ty0 t1 t2 hO.2.2.2.2.1 hO.2.2.2.2.2.2.2.1 hP (wd_D hO.2.2.2.2.2.2.2 g) hS k (by rw [wd_at hlt, h6]) h1 j h2 (hO.2.2.2.2.2.1 _ h4) (fun _ h => h) t3 t4 hn hfit hfl hd (fun H1 locs1 q1 q2 q3 => ?_)
  have e1 : (wd Γ g).set k (Γ.2.2.2.1 k, .inr (ci, (fldV Γ.2.2.2.1 (g k) fl).set j (.int x))) = wd Γ (up g k j x) := wd_set hlt (by rw [h6, up_same, fldV_set h5]) (fun a ha => up_ne ha)
  rw [e1] at q1
  exact K p e s m args below meth c hO H1 locs1 lsA q1 q3 hL
theorem aw_iald {k n : Nat} {i : Int32} (ha : aAt k = some (0, n)) (hd : decode I.1 pc = .ok (.iaload, 1)) (hin : vp_in i n) (K : AW Γ D I P (pc + 1) ls (.inl (g k i.toNatClampNeg) :: st) g) : AW Γ D I P pc ls (.inl i :: .inr k :: st) g := by
  intro p e s m args below meth c hO H locs lsA hP hS hL
  exact va_iald (f := g k) hO.1 hO.2.1 hO.2.2.2.2.2.2.2.1 hP k 0 (by rw [wd_at (aAt_lt ha), aAt_cell ha]) rfl hin hd (K p e s m args below meth c hO H locs lsA hP hS hL)
theorem aw_zald {k n : Nat} {i : Int32} (ha : aAt k = some (1, n)) (hd : decode I.1 pc = .ok (.baload, 1)) (hin : vp_in i n) (K : AW Γ D I P (pc + 1) ls (.inl (g k i.toNatClampNeg) :: st) g) : AW Γ D I P pc ls (.inl i :: .inr k :: st) g := by
  intro p e s m args below meth c hO H locs lsA hP hS hL
  exact va_zald (f := g k) hO.1 hO.2.1 hO.2.2.2.2.2.2.2.1 hP k 1 (by rw [wd_at (aAt_lt ha), aAt_cell ha]) rfl hin hd (K p e s m args below meth c hO H locs lsA hP hS hL)
theorem aw_iast {k n : Nat} {i x : Int32} (ha : aAt k = some (0, n)) (hd : decode I.1 pc = .ok (.iastore, 1)) (hin : vp_in i n) (K : AW Γ D I P (pc + 1) ls st (up g k i.toNatClampNeg x)) : AW Γ D I P pc ls (.inl x :: .inl i :: .inr k :: st) g := by
  intro p e s m args below meth c hO H locs lsA hP hS hL
  refine va_iast (f := g k) hO.1 hO.2.1 hO.2.2.2.2.2.2.2.1 hP (wd_D hO.2.2.2.2.2.2.2 g) hS k 0 (by rw [wd_at (aAt_lt ha), aAt_cell ha]) rfl hin hd (fun H1 locs1 q1 q2 q3 => ?_)
  have e1 : (wd Γ g).set k (Γ.2.2.2.1 k, .inl (Γ.2.2.2.2.1 0, n, .inl (upd (g k) i.toNatClampNeg x))) = wd Γ (up g k i.toNatClampNeg x) := wd_set (aAt_lt ha) (by rw [aAt_cell ha, up_same]) (fun a ha => up_ne ha)
  rw [e1] at q1
  exact K p e s m args below meth c hO H1 locs1 lsA q1 q3 hL
theorem aw_zast {k n : Nat} {i x : Int32} (ha : aAt k = some (1, n)) (hd : decode I.1 pc = .ok (.bastore, 1)) (hin : vp_in i n) (hx : vp_nar .boolean x = x) (K : AW Γ D I P (pc + 1) ls st (up g k i.toNatClampNeg x)) : AW Γ D I P pc ls (.inl x :: .inl i :: .inr k :: st) g := by
  intro p e s m args below meth c hO H locs lsA hP hS hL
  refine va_zast (f := g k) hO.1 hO.2.1 hO.2.2.2.2.2.2.2.1 hP (wd_D hO.2.2.2.2.2.2.2 g) hS k 1 (by rw [wd_at (aAt_lt ha), aAt_cell ha]) rfl hin hd (fun H1 locs1 q1 q2 q3 => ?_)
  rw [hx] at q1
  have e1 : (wd Γ g).set k (Γ.2.2.2.1 k, .inl (Γ.2.2.2.2.1 1, n, .inl (upd (g k) i.toNatClampNeg x))) = wd Γ (up g k i.toNatClampNeg x) := wd_set (aAt_lt ha) (by rw [aAt_cell ha, up_same]) (fun a ha => up_ne ha)
  rw [e1] at q1
  exact K p e s m args below meth c hO H1 locs1 lsA q1 q3 hL
theorem aw_aald {k x : Nat} {i : Int32} {L : List Nat} (ha : rAt k = some (x :: L)) (hd : decode I.1 pc = .ok (.aaload, 1)) (hin : vp_in i (x :: L).length) (K : AW Γ D I P (pc + 1) ls (.inr ((x :: L).getD i.toNatClampNeg 0) :: st) g) : AW Γ D I P pc ls (.inl i :: .inr k :: st) g := by
  intro p e s m args below meth c hO H locs lsA hP hS hL
  have hlt : i.toNatClampNeg < (x :: L).length := Nat.not_le.mp fun q => hin (Or.inr q)
  have h0 := K p e s m args below meth c hO H locs lsA hP hS hL
  refine va_aldq (f := fun j => ((x :: L)[j]?).map Γ.2.2.2.1) (C := "ConfinementAnalyzer$State") hO.1 hO.2.1 hO.2.2.2.2.2.2.2.1 hP k 2 (by rw [wd_at (rAt_lt ha), rAt_cell ha]) rfl hin hd ?_
  have e1 : va_rf (((x :: L)[i.toNatClampNeg]?).map Γ.2.2.2.1) = avV Γ.2.2.2.1 (.inr ((x :: L).getD i.toNatClampNeg 0)) := by
    rw [List.getD_eq_getElem?_getD, List.getElem?_eq_getElem hlt]
    rfl
  rw [e1]
  exact h0
theorem aw_alen {k n t : Nat} (v : Int32) (ha : aAt k = some (0, n)) (hd : decode I.1 pc = .ok (.arraylength, 1)) (hv : Int32.ofNat n = v) (K : AW Γ D I P (pc + 1) ls (.inl v :: st) g) : AW Γ D I P pc ls (.inr k :: st) g := by
  intro p e s m args below meth c hO H locs lsA hP hS hL
  exact va_alen (x := (n, .inl (g k))) (ty := .int) hO.1 hO.2.1 hO.2.2.2.2.2.2.2.1 hP k 0 (by rw [wd_at (aAt_lt ha), aAt_cell ha]) rfl hv hd (K p e s m args below meth c hO H locs lsA hP hS hL)
theorem aw_iret {v : Int32} {ty : FieldType} (hr : I.2.2.2 = some ty) (hn : narrow ty (.int v) = .int v) (hd : decode I.1 pc = .ok (.ireturn, 1)) (h : P v g) : AW Γ D I P pc ls [.inl v] g := by
  intro p e s m args below meth c hO H locs lsA hP hS hL
  refine W.zret hO.1 hO.2.1 (hO.2.2.1.trans hr) hn (fun t ht hW => ?_) (fun q hq => hS.2.2 q hq) hd hO.2.2.2.2.2.2.1
  rw [hr]
  exact ⟨⟨v, g, rfl, h, by show va_P _ _ _ t.heap; rw [ht]; exact hP⟩, hS.F ht⟩
theorem aw_vret (hr : I.2.2.2 = none) (hd : decode I.1 pc = .ok (.return_, 1)) (h : P 0 g) : AW Γ D I P pc ls [] g := by
  intro p e s m args below meth c hO H locs lsA hP hS hL
  refine W.vret hO.1 hO.2.1 (hO.2.2.1.trans hr) (fun t ht hW => ?_) (fun q hq => hS.2.2 q hq) hd hO.2.2.2.2.2.2.1
  rw [hr]
  exact ⟨⟨g, rfl, h, by show va_P _ _ _ t.heap; rw [ht]; exact hP⟩, hS.F ht⟩
theorem aw_ldcw {idx : Nat} (v : Int32) (hc : Cond.constant I.2.1 idx v ∈ GW) (hd : decode I.1 pc = .ok (.ldc_w idx, 3)) (K : AW Γ D I P (pc + 3) ls (.inl v :: st) g) : AW Γ D I P pc ls st g := by
  intro p e s m args below meth c hO H locs lsA hP hS hL
  exact lv_ldcw hO.1 hO.2.1 hO.2.2.2.2.1 (hO.2.2.2.2.2.1 _ hc) hd (K p e s m args below meth c hO H locs lsA hP hS hL)
theorem aw_ldcs {idx i : Nat} {tx : String} (hi : sIdx[i]? = some (idx, tx)) (ho : I.2.1 = RX5) (hd : decode I.1 pc = .ok (.ldc idx, 2)) (K : AW Γ D I P (pc + 2) ls (.inr (200 + i) :: st) g) : AW Γ D I P pc ls st g := by
  intro p e s m args below meth c hO H locs lsA hP hS hL
  have hs := hO.2.2.2.2.2.2.2.2.2.1
  have h0 := K p e s m args below meth c hO H locs lsA hP hS hL
  have e1 : avV Γ.2.2.2.1 (.inr (200 + i)) = .ref (Γ.2.2.2.2.2.1 i) := by show Value.ref _ = _; rw [hs.2.2.2.2 i]
  rw [List.map_cons, e1] at h0
  exact va_ldcS hO.1 hO.2.1 hO.2.2.2.2.1 (by rw [ho]; exact hs.2.1 i _ hi) hd h0
theorem aw_tIn {dflt lo hi : Int} {offs : Array Int} {len : Nat} {x : Int32} {off : Int} (tgt : Nat) (hd : decode I.1 pc = .ok (.tableswitch dflt lo hi offs, len)) (h1 : ¬ x.toInt < lo) (h2 : ¬ hi < x.toInt) (ho : offs[(x.toInt - lo).toNat]? = some off) (ht : (pc : Int) + off = (tgt : Int)) (K : AW Γ D I P tgt ls st g) : AW Γ D I P pc ls (.inl x :: st) g := by
  intro p e s m args below meth c hO H locs lsA hP hS hL
  exact lv_tableIn hO.1 hO.2.1 hd h1 h2 ho ht (K p e s m args below meth c hO H locs lsA hP hS hL)
theorem aw_tOut {dflt lo hi : Int} {offs : Array Int} {len : Nat} {x : Int32} (tgt : Nat) (hd : decode I.1 pc = .ok (.tableswitch dflt lo hi offs, len)) (h : x.toInt < lo ∨ hi < x.toInt) (ht : (pc : Int) + dflt = (tgt : Int)) (K : AW Γ D I P tgt ls st g) : AW Γ D I P pc ls (.inl x :: st) g := by
  intro p e s m args below meth c hO H locs lsA hP hS hL
  exact lv_tableOut hO.1 hO.2.1 hd h ht (K p e s m args below meth c hO H locs lsA hP hS hL)
def cpy (g : Mem) (q0 q1 sp dp n : Nat) : Mem := fun a => if a = q1 then va_cpy (g q0) (g q1) sp dp n else g a
theorem aw_copy {q0 q1 n0 n1 idx : Nat} {sp dp n : Int32} (hw : ∀ w ∈ ([.methodLink I.2.1 idx arraycopyName, .native arraycopyName, .static arraycopyName, .initialized "java/lang/System"] : List Cond), w ∈ GW) (h0 : aAt q0 = some (0, n0)) (h1 : aAt q1 = some (0, n1)) (hD : 1 ≤ D) (hst : st.length ≤ 4) (hd : decode I.1 pc = .ok (.invokestatic idx, 3)) (hc : ¬ sp < 0 ∧ ¬ dp < 0 ∧ ¬ n < 0 ∧ sp.toNatClampNeg + n.toNatClampNeg ≤ n0 ∧ dp.toNatClampNeg + n.toNatClampNeg ≤ n1) (K : AW Γ D I P (pc + 3) ls st (cpy g q0 q1 sp.toNatClampNeg dp.toNatClampNeg n.toNatClampNeg)) : AW Γ D I P pc ls (.inl n :: .inl dp :: .inr q1 :: .inl sp :: .inr q0 :: st) g := by
  intro p e s m args below meth c hO H locs lsA hP hS hL
  have ht := hO.2.2.2.2.2.1
  have hnf : nativeFrameWords "java/lang/System" "arraycopy" 5 ≤ 20 := by decide +kernel
  refine va_copyi (f := g q0) (g := g q1) (ty := .int) hO.1 hO.2.1 (hO.2.2.2.1.trans hL.1.symm) hO.2.2.2.2.1 (ht _ (hw _ (by simp))) (ht _ (hw _ (by simp))) (ht _ (hw _ (by simp))) (ht _ (hw _ (by simp))) hO.2.2.2.2.2.2.2.1 hP (wd_D hO.2.2.2.2.2.2.2 g) hS q0 q1 0 0 (by rw [wd_at (aAt_lt h0), aAt_cell h0]) (by rw [wd_at (aAt_lt h1), aAt_cell h1]) rfl rfl rfl hc.1 hc.2.1 hc.2.2.1 hc.2.2.2.1 hc.2.2.2.2 (fun i hi => rfl) hD (by rw [cat_sum]; show _ ≤ 39 * D; omega) hd (fun H1 locs1 z1 z2 z3 => ?_)
  have e1 : (wd Γ g).set q1 (Γ.2.2.2.1 q1, .inl (Γ.2.2.2.2.1 0, n1, .inl (va_cpy (g q0) (g q1) sp.toNatClampNeg dp.toNatClampNeg n.toNatClampNeg))) = wd Γ (cpy g q0 q1 sp.toNatClampNeg dp.toNatClampNeg n.toNatClampNeg) := wd_set (aAt_lt h1) (by rw [aAt_cell h1]; simp [cpy]) (fun a ha => by simp [cpy, ha])
  rw [e1] at z1
  exact K p e s m args below meth c hO H1 locs1 lsA z1 z3 hL
theorem aw_mmin {idx : Nat} {x y : Int32} (hw : ∀ w ∈ ([.methodLink I.2.1 idx Lib.Math.min.name, .static Lib.Math.min.name, .initialized "java/lang/Math", .code Lib.Math.min.name Lib.Math.min.code 2 (some .int)] : List Cond), w ∈ GW) (hD : 1 ≤ D) (hst : st.length ≤ 8) (hd : decode I.1 pc = .ok (.invokestatic idx, 3)) (K : AW Γ D I P (pc + 3) ls (.inl (if y < x then y else x) :: st) g) : AW Γ D I P pc ls (.inl y :: .inl x :: st) g := by
  intro p e s m args below meth c hO H locs lsA hP hS hL
  have ht := hO.2.2.2.2.2.1
  exact va_mmin hO.1 hO.2.1 (hO.2.2.2.1.trans hL.1.symm) hO.2.2.2.2.1 (ht _ (hw _ (by simp))) (ht _ (hw _ (by simp))) (ht _ (hw _ (by simp))) (ht _ (hw _ (by simp))) hD (by rw [cat_sum]; show _ ≤ 39 * D; omega) (Nat.le_refl _) (Nat.le_refl _) hd (K p e s m args below meth c hO H locs lsA hP hS hL)
end AWR
end
section
/-! Calls. -/
def CkM (C : String) (y : MethodName) (J : Mi) (n : Nat) : Prop := (∀ w ∈ ([.instanceMethod y, .selects C y y, .initialized C, .code y J.1 J.2.2.1 J.2.2.2] : List Cond), w ∈ GW) ∧ (y.cls = C ∧ y.cls ≠ "java/lang/invoke/MethodHandle" ∧ y.cls ≠ "java/lang/invoke/VarHandle" ∧ (parseMethodDescriptor y.desc).map (fun d => d.parameters.length) = some n) ∧ J.2.2.1 ≤ 20
def CkS (y : MethodName) (J : Mi) (n : Nat) : Prop := (∀ w ∈ ([.static y, .initialized y.cls, .code y J.1 J.2.2.1 J.2.2.2] : List Cond), w ∈ GW) ∧ (y.cls ≠ "java/lang/invoke/MethodHandle" ∧ y.cls ≠ "java/lang/invoke/VarHandle" ∧ (parseMethodDescriptor y.desc).map (fun d => d.parameters.length) = some n) ∧ J.2.2.1 ≤ 20
theorem gIn {y : MethodName} {J : Mi} (hc : Cond.code y J.1 J.2.2.1 J.2.2.2 ∈ GW) : GoodIn GW (wsG y J) := by
  intro w hw
  rcases List.mem_cons.mp hw with rfl | hw
  · exact ⟨hc, gw_good hc⟩
  · exact ⟨hw, gw_good hw⟩
theorem gApp {a b : List Cond} (ha : ∀ w ∈ a, w ∈ GW) (hb : GoodIn GW b) : GoodIn GW (a ++ b) := fun w h => (List.mem_append.mp h).elim (fun h => ⟨ha w h, gw_good (ha w h)⟩) (hb w)
theorem mapRev (ad : Nat → Nat) (as st : List AV) : (as.reverse ++ st).map (avV ad) = (as.map (avV ad)).reverse ++ st.map (avV ad) := by simp
section AWC
variable {Γ : Gam} {D d : Nat} {I J : Mi} {P : Int32 → Mem → Prop} {pc : Nat} {ls : List (Option AV)} {st stk : List AV} {g : Mem} {y : MethodName} {idx : Nat}
theorem rm_ok (h : d + 1 ≤ D) (hn : J.2.2.1 ≤ 20) : (rmD d).frames + 1 ≤ (rmD D).frames ∧ 8 + (J.2.2.1 + 11) + (rmD d).locals ≤ (rmD D).locals := by
  refine ⟨h, ?_⟩
  show 8 + (J.2.2.1 + 11) + 39 * d ≤ 39 * D
  omega
theorem pre_ok {p : Program} {s : State} {m : MethodId} {args : Array Value} {meth : Method} {c : Code} {H : Heap} {locs : List Loc} (hO : Ok Γ I p s m args meth c) (hP : va_P (dd Γ) vwCl (wd Γ g) H) (hS : va_S (fr Γ) s.heap H locs) (as : List AV) : ∀ U : State, U.heap = H → s.WarmedH U.vm → PcG Γ as g (as.map (avV Γ.2.2.2.1)).toArray U := by
  intro U hU hW
  refine ⟨rfl, by rw [hU]; exact hP, ?_⟩
  rw [hU]
  exact hO.2.2.2.2.2.2.2.warm hW (fun a h1 h2 => hS.2.1 a h1 h2)
theorem recv_ok {p : Program} {s : State} {m : MethodId} {args : Array Value} {meth : Method} {c : Code} {H : Heap} {k ci : Nat} {q : vw_C} (hO : Ok Γ I p s m args meth c) (hP : va_P (dd Γ) vwCl (wd Γ g) H) (hk : cAt k = some ci) (hq : vwCl[ci]? = some q) : ∃ cell : Cell, H[Γ.2.2.2.1 k]? = some cell ∧ cell.vm.isStatics = false ∧ s.vm.findClass q.1 = some cell.cls := by
  obtain ⟨fs, hf⟩ := cAt_cell (Γ := Γ) (g := g) hk
  exact va_recv hO.2.2.2.2.2.2.2.1 hP hq (q0 := k) (by rw [wd_at (cAt_lt hk), hf])
theorem aw_callVi {n : Nat} (hl : Cond.methodLink I.2.1 idx y ∈ GW) {C : String} {T : u_T} {N ci k : Nat} (hM : CkM C y J n) (hk : cAt k = some ci) (hq : vwCl[ci]? = some (C, T, N)) (hdp : d + 1 ≤ D) (as : List AV) (hn : as.length = n) (hst : stk = as.reverse ++ (.inr k :: st)) (hs8 : st.length ≤ 8) (hd : decode I.1 pc = .ok (.invokevirtual idx, 3)) {ty : FieldType} (hr : J.2.2.2 = some ty) (R : Runs Γ d y J (.inr k :: as) g (fun r g' => AW Γ D I P (pc + 3) ls (.inl r :: st) g')) : AW Γ D I P pc ls stk g := by
  intro p e s m args below meth c hO H locs lsA hP hS hL
  subst hst
  have hw := hM.1
  have hcode : Cond.code y J.1 J.2.2.1 J.2.2.2 ∈ GW := hw _ (by simp)
  have ht := hO.2.2.2.2.2.1
  have hcw := cwV (R := rmD D) (s := s) (args := args) (own := I.2.1) (index := idx) (C := C) (y := y) (rm := rmD d) (mc := 0) (ms := 0) n ht (gApp (fun w h => by
      simp only [List.mem_cons, List.not_mem_nil, or_false] at h
      rcases h with rfl | rfl | rfl | rfl
      · exact hl
      · exact hw _ (by simp)
      · exact hw _ (by simp)
      · exact hw _ (by simp)) (gIn hcode)) rfl rfl rfl hM.2.1 (rm_ok hdp hM.2.2)
  unfold Runs QcG at R
  rw [hr] at R
  have hrun := va_runV (e := e) (below := below) (meth := meth) (H := H) (locs := locs) (cells := 0) (slots := 0) (g := F0 m pc lsA ((as.reverse ++ (.inr k :: st)).map (avV Γ.2.2.2.1))) (As := as.map (avV Γ.2.2.2.1)) (rest := st.map (avV Γ.2.2.2.1)) ⟨hO.1, hO.2.1, hO.2.2.2.1, hO.2.2.2.2.1, ht⟩ R hcw ⟨PcG.blind, recv_ok hO hP hk hq, pre_ok hO hP hS (.inr k :: as)⟩ rfl (by rw [List.length_map]; exact hn) hL.1 (by rw [mapRev]; rfl) (lv_room (by rw [cat_sum]; exact hs8)) hd ⟨Nat.le_refl _, Nat.le_refl _⟩
  refine va_calli hrun hS (fun q _ h => h) (fun q h => h) (fun r u t H1 locs1 ht1 hvm hw1 hB hz hk1 hS1 => ?_)
  have hB2 : va_P (dd Γ) vwCl (wd Γ u) t.heap := hB
  rw [ht1] at hB2
  exact hw1 p e s m args below meth c hO H1 locs1 lsA hB2 hS1 hL
theorem aw_callVv {n : Nat} (hl : Cond.methodLink I.2.1 idx y ∈ GW) {C : String} {T : u_T} {N ci k : Nat} (hM : CkM C y J n) (hk : cAt k = some ci) (hq : vwCl[ci]? = some (C, T, N)) (hdp : d + 1 ≤ D) (as : List AV) (hn : as.length = n) (hst : stk = as.reverse ++ (.inr k :: st)) (hs8 : st.length ≤ 8) (hd : decode I.1 pc = .ok (.invokevirtual idx, 3)) (hr : J.2.2.2 = none) (R : Runs Γ d y J (.inr k :: as) g (fun r g' => AW Γ D I P (pc + 3) ls st g')) : AW Γ D I P pc ls stk g := by
  intro p e s m args below meth c hO H locs lsA hP hS hL
  subst hst
  have hw := hM.1
  have hcode : Cond.code y J.1 J.2.2.1 J.2.2.2 ∈ GW := hw _ (by simp)
  have ht := hO.2.2.2.2.2.1
  have hcw := cwV (R := rmD D) (s := s) (args := args) (own := I.2.1) (index := idx) (C := C) (y := y) (rm := rmD d) (mc := 0) (ms := 0) n ht (gApp (fun w h => by
      simp only [List.mem_cons, List.not_mem_nil, or_false] at h
      rcases h with rfl | rfl | rfl | rfl
      · exact hl
      · exact hw _ (by simp)
      · exact hw _ (by simp)
      · exact hw _ (by simp)) (gIn hcode)) rfl rfl rfl hM.2.1 (rm_ok hdp hM.2.2)
  unfold Runs QcG at R
  rw [hr] at R
  have hrun := va_runV (e := e) (below := below) (meth := meth) (H := H) (locs := locs) (cells := 0) (slots := 0) (g := F0 m pc lsA ((as.reverse ++ (.inr k :: st)).map (avV Γ.2.2.2.1))) (As := as.map (avV Γ.2.2.2.1)) (rest := st.map (avV Γ.2.2.2.1)) ⟨hO.1, hO.2.1, hO.2.2.2.1, hO.2.2.2.2.1, ht⟩ R hcw ⟨PcG.blind, recv_ok hO hP hk hq, pre_ok hO hP hS (.inr k :: as)⟩ rfl (by rw [List.length_map]; exact hn) hL.1 (by rw [mapRev]; rfl) (lv_room (by rw [cat_sum]; exact hs8)) hd ⟨Nat.le_refl _, Nat.le_refl _⟩
  refine va_callv hrun hS (fun q _ h => h) (fun q h => h) (fun u t H1 locs1 ht1 hvm hw1 hB hz hk1 hS1 => ?_)
  have hB2 : va_P (dd Γ) vwCl (wd Γ u) t.heap := hB
  rw [ht1] at hB2
  exact hw1 p e s m args below meth c hO H1 locs1 lsA hB2 hS1 hL
theorem aw_callNi {n : Nat} {host : String} (hl : (I.2.1, idx, y, host) ∈ nestL) {C : String} {T : u_T} {N ci k : Nat} (hM : CkM C y J n) (hk : cAt k = some ci) (hq : vwCl[ci]? = some (C, T, N)) (hdp : d + 1 ≤ D) (as : List AV) (hn : as.length = n) (hst : stk = as.reverse ++ (.inr k :: st)) (hs8 : st.length ≤ 8) (hd : decode I.1 pc = .ok (.invokevirtual idx, 3)) {ty : FieldType} (hr : J.2.2.2 = some ty) (R : Runs Γ d y J (.inr k :: as) g (fun r g' => AW Γ D I P (pc + 3) ls (.inl r :: st) g')) : AW Γ D I P pc ls stk g := by
  intro p e s m args below meth c hO H locs lsA hP hS hL
  subst hst
  have hw := hM.1
  have hcode : Cond.code y J.1 J.2.2.1 J.2.2.2 ∈ GW := hw _ (by simp)
  have ht := hO.2.2.2.2.2.1
  obtain ⟨hm1, hm2, hm3⟩ := hM.2.1
  subst hm1
  have hcw := va_cnB (R := rmD D) (s := s) (args := args) (own := I.2.1) (index := idx) (y := y) (host := host) (rm := rmD d) (mc := 0) (ms := 0) n ht (gIn hcode) rfl rfl rfl (hO.2.2.2.2.2.2.2.2.1 _ hl) (ht _ (hw (.initialized y.cls) (by simp))) ⟨hm2, hm3⟩ (rm_ok hdp hM.2.2)
  unfold Runs QcG at R
  rw [hr] at R
  have hrun := va_runVN (e := e) (below := below) (meth := meth) (H := H) (locs := locs) (cells := 0) (slots := 0) (g := F0 m pc lsA ((as.reverse ++ (.inr k :: st)).map (avV Γ.2.2.2.1))) (As := as.map (avV Γ.2.2.2.1)) (rest := st.map (avV Γ.2.2.2.1)) ⟨hO.1, hO.2.1, hO.2.2.2.1, hO.2.2.2.2.1, ht⟩ R ⟨hcw, ht _ (hw (.instanceMethod y) (by simp)), ht _ (hw (.selects y.cls y y) (by simp))⟩ ⟨PcG.blind, recv_ok hO hP hk hq, pre_ok hO hP hS (.inr k :: as)⟩ rfl (by rw [List.length_map]; exact hn) hL.1 (by rw [mapRev]; rfl) (lv_room (by rw [cat_sum]; exact hs8)) hd ⟨Nat.le_refl _, Nat.le_refl _⟩
  refine va_calli hrun hS (fun q _ h => h) (fun q h => h) (fun r u t H1 locs1 ht1 hvm hw1 hB hz hk1 hS1 => ?_)
  have hB2 : va_P (dd Γ) vwCl (wd Γ u) t.heap := hB
  rw [ht1] at hB2
  exact hw1 p e s m args below meth c hO H1 locs1 lsA hB2 hS1 hL
theorem aw_callNv {n : Nat} {host : String} (hl : (I.2.1, idx, y, host) ∈ nestL) {C : String} {T : u_T} {N ci k : Nat} (hM : CkM C y J n) (hk : cAt k = some ci) (hq : vwCl[ci]? = some (C, T, N)) (hdp : d + 1 ≤ D) (as : List AV) (hn : as.length = n) (hst : stk = as.reverse ++ (.inr k :: st)) (hs8 : st.length ≤ 8) (hd : decode I.1 pc = .ok (.invokevirtual idx, 3)) (hr : J.2.2.2 = none) (R : Runs Γ d y J (.inr k :: as) g (fun r g' => AW Γ D I P (pc + 3) ls st g')) : AW Γ D I P pc ls stk g := by
  intro p e s m args below meth c hO H locs lsA hP hS hL
  subst hst
  have hw := hM.1
  have hcode : Cond.code y J.1 J.2.2.1 J.2.2.2 ∈ GW := hw _ (by simp)
  have ht := hO.2.2.2.2.2.1
  obtain ⟨hm1, hm2, hm3⟩ := hM.2.1
  subst hm1
  have hcw := va_cnB (R := rmD D) (s := s) (args := args) (own := I.2.1) (index := idx) (y := y) (host := host) (rm := rmD d) (mc := 0) (ms := 0) n ht (gIn hcode) rfl rfl rfl (hO.2.2.2.2.2.2.2.2.1 _ hl) (ht _ (hw (.initialized y.cls) (by simp))) ⟨hm2, hm3⟩ (rm_ok hdp hM.2.2)
  unfold Runs QcG at R
  rw [hr] at R
  have hrun := va_runVN (e := e) (below := below) (meth := meth) (H := H) (locs := locs) (cells := 0) (slots := 0) (g := F0 m pc lsA ((as.reverse ++ (.inr k :: st)).map (avV Γ.2.2.2.1))) (As := as.map (avV Γ.2.2.2.1)) (rest := st.map (avV Γ.2.2.2.1)) ⟨hO.1, hO.2.1, hO.2.2.2.1, hO.2.2.2.2.1, ht⟩ R ⟨hcw, ht _ (hw (.instanceMethod y) (by simp)), ht _ (hw (.selects y.cls y y) (by simp))⟩ ⟨PcG.blind, recv_ok hO hP hk hq, pre_ok hO hP hS (.inr k :: as)⟩ rfl (by rw [List.length_map]; exact hn) hL.1 (by rw [mapRev]; rfl) (lv_room (by rw [cat_sum]; exact hs8)) hd ⟨Nat.le_refl _, Nat.le_refl _⟩
  refine va_callv hrun hS (fun q _ h => h) (fun q h => h) (fun u t H1 locs1 ht1 hvm hw1 hB hz hk1 hS1 => ?_)
  have hB2 : va_P (dd Γ) vwCl (wd Γ u) t.heap := hB
  rw [ht1] at hB2
  exact hw1 p e s m args below meth c hO H1 locs1 lsA hB2 hS1 hL
theorem aw_callSi {n : Nat} (hl : Cond.methodLink I.2.1 idx y ∈ GW) (hM : CkS y J n) (hdp : d + 1 ≤ D) (as : List AV) (hn : as.length = n) (hst : stk = as.reverse ++ st) (hs8 : st.length ≤ 8) (hd : decode I.1 pc = .ok (.invokestatic idx, 3)) {ty : FieldType} (hr : J.2.2.2 = some ty) (R : Runs Γ d y J as g (fun r g' => AW Γ D I P (pc + 3) ls (.inl r :: st) g')) : AW Γ D I P pc ls stk g := by
  intro p e s m args below meth c hO H locs lsA hP hS hL
  subst hst
  have hw := hM.1
  have hcode : Cond.code y J.1 J.2.2.1 J.2.2.2 ∈ GW := hw _ (by simp)
  have ht := hO.2.2.2.2.2.1
  have hcw := va_cwS (R := rmD D) (s := s) (args := args) (own := I.2.1) (index := idx) (y := y) (rm := rmD d) (mc := 0) (ms := 0) n ht (gApp (fun w h => by
      simp only [List.mem_cons, List.not_mem_nil, or_false] at h
      rcases h with rfl | rfl | rfl
      · exact hl
      · exact hw _ (by simp)
      · exact hw _ (by simp)) (gIn hcode)) rfl rfl rfl hM.2.1 (rm_ok hdp hM.2.2)
  unfold Runs QcG at R
  rw [hr] at R
  have hrun := va_runS (e := e) (below := below) (meth := meth) (H := H) (locs := locs) (cells := 0) (slots := 0) (g := F0 m pc lsA ((as.reverse ++ st).map (avV Γ.2.2.2.1))) (As := as.map (avV Γ.2.2.2.1)) (rest := st.map (avV Γ.2.2.2.1)) ⟨hO.1, hO.2.1, hO.2.2.2.1, hO.2.2.2.2.1, ht⟩ R hcw ⟨PcG.blind, pre_ok hO hP hS as⟩ rfl (by rw [List.length_map]; exact hn) hL.1 (by rw [mapRev]) (lv_room (by rw [cat_sum]; exact hs8)) hd ⟨Nat.le_refl _, Nat.le_refl _⟩
  refine va_calli hrun hS (fun q _ h => h) (fun q h => h) (fun r u t H1 locs1 ht1 hvm hw1 hB hz hk1 hS1 => ?_)
  have hB2 : va_P (dd Γ) vwCl (wd Γ u) t.heap := hB
  rw [ht1] at hB2
  exact hw1 p e s m args below meth c hO H1 locs1 lsA hB2 hS1 hL
theorem aw_callSv {n : Nat} (hl : Cond.methodLink I.2.1 idx y ∈ GW) (hM : CkS y J n) (hdp : d + 1 ≤ D) (as : List AV) (hn : as.length = n) (hst : stk = as.reverse ++ st) (hs8 : st.length ≤ 8) (hd : decode I.1 pc = .ok (.invokestatic idx, 3)) (hr : J.2.2.2 = none) (R : Runs Γ d y J as g (fun r g' => AW Γ D I P (pc + 3) ls st g')) : AW Γ D I P pc ls stk g := by
  intro p e s m args below meth c hO H locs lsA hP hS hL
  subst hst
  have hw := hM.1
  have hcode : Cond.code y J.1 J.2.2.1 J.2.2.2 ∈ GW := hw _ (by simp)
  have ht := hO.2.2.2.2.2.1
  have hcw := va_cwS (R := rmD D) (s := s) (args := args) (own := I.2.1) (index := idx) (y := y) (rm := rmD d) (mc := 0) (ms := 0) n ht (gApp (fun w h => by
      simp only [List.mem_cons, List.not_mem_nil, or_false] at h
      rcases h with rfl | rfl | rfl
      · exact hl
      · exact hw _ (by simp)
      · exact hw _ (by simp)) (gIn hcode)) rfl rfl rfl hM.2.1 (rm_ok hdp hM.2.2)
  unfold Runs QcG at R
  rw [hr] at R
  have hrun := va_runS (e := e) (below := below) (meth := meth) (H := H) (locs := locs) (cells := 0) (slots := 0) (g := F0 m pc lsA ((as.reverse ++ st).map (avV Γ.2.2.2.1))) (As := as.map (avV Γ.2.2.2.1)) (rest := st.map (avV Γ.2.2.2.1)) ⟨hO.1, hO.2.1, hO.2.2.2.1, hO.2.2.2.2.1, ht⟩ R hcw ⟨PcG.blind, pre_ok hO hP hS as⟩ rfl (by rw [List.length_map]; exact hn) hL.1 (by rw [mapRev]) (lv_room (by rw [cat_sum]; exact hs8)) hd ⟨Nat.le_refl _, Nat.le_refl _⟩
  refine va_callv hrun hS (fun q _ h => h) (fun q h => h) (fun u t H1 locs1 ht1 hvm hw1 hB hz hk1 hS1 => ?_)
  have hB2 : va_P (dd Γ) vwCl (wd Γ u) t.heap := hB
  rw [ht1] at hB2
  exact hw1 p e s m args below meth c hO H1 locs1 lsA hB2 hS1 hL
theorem aw_callSNi {n : Nat} {host : String} (hl : (I.2.1, idx, y, host) ∈ nestL) (hM : CkS y J n) (hdp : d + 1 ≤ D) (as : List AV) (hn : as.length = n) (hst : stk = as.reverse ++ st) (hs8 : st.length ≤ 8) (hd : decode I.1 pc = .ok (.invokestatic idx, 3)) {ty : FieldType} (hr : J.2.2.2 = some ty) (R : Runs Γ d y J as g (fun r g' => AW Γ D I P (pc + 3) ls (.inl r :: st) g')) : AW Γ D I P pc ls stk g := by
  intro p e s m args below meth c hO H locs lsA hP hS hL
  subst hst
  have hw := hM.1
  have hcode : Cond.code y J.1 J.2.2.1 J.2.2.2 ∈ GW := hw _ (by simp)
  have ht := hO.2.2.2.2.2.1
  have hcw := va_cnB (R := rmD D) (s := s) (args := args) (own := I.2.1) (index := idx) (y := y) (host := host) (rm := rmD d) (mc := 0) (ms := 0) n ht (gIn hcode) rfl rfl rfl (hO.2.2.2.2.2.2.2.2.1 _ hl) (ht _ (hw (.initialized y.cls) (by simp))) hM.2.1 (rm_ok hdp hM.2.2)
  unfold Runs QcG at R
  rw [hr] at R
  have hrun := va_runSN (e := e) (below := below) (meth := meth) (H := H) (locs := locs) (cells := 0) (slots := 0) (g := F0 m pc lsA ((as.reverse ++ st).map (avV Γ.2.2.2.1))) (As := as.map (avV Γ.2.2.2.1)) (rest := st.map (avV Γ.2.2.2.1)) ⟨hO.1, hO.2.1, hO.2.2.2.1, hO.2.2.2.2.1, ht⟩ R ⟨hcw, ht _ (hw (.static y) (by simp)), trivial⟩ ⟨PcG.blind, pre_ok hO hP hS as⟩ rfl (by rw [List.length_map]; exact hn) hL.1 (by rw [mapRev]) (lv_room (by rw [cat_sum]; exact hs8)) hd ⟨Nat.le_refl _, Nat.le_refl _⟩
  refine va_calli hrun hS (fun q _ h => h) (fun q h => h) (fun r u t H1 locs1 ht1 hvm hw1 hB hz hk1 hS1 => ?_)
  have hB2 : va_P (dd Γ) vwCl (wd Γ u) t.heap := hB
  rw [ht1] at hB2
  exact hw1 p e s m args below meth c hO H1 locs1 lsA hB2 hS1 hL
end AWC
end
